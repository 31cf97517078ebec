import java.util.ArrayList;
import java.util.Arrays;
import java.util.NoSuchElementException;

/** A market of policies, losses, treaties, reinsurers and scenarios. */
public final class Layertreaty {
    private static final int MOST_POLICIES = 12;
    private static final int MOST_LOSSES = 30;
    private static final int MOST_TREATIES = 8;
    private static final int MOST_SCENARIOS = 12;
    private static final int ZONES = 4;
    private static final int REINSURERS = 5;
    private static final int LAST_DAY = 999;
    private static final int MILLION = 1000000;
    private static final int NO_TREATY = -1;
    private static final int NO_EVENT = -1;
    private static final int ANY_ZONE = -1;
    private static final long MORE_THAN_ALL = 1000000000000L;

    private final ArrayList<Policy> policies = new ArrayList<>();
    private final ArrayList<Claim> claims = new ArrayList<>();
    private final ArrayList<Treaty> terms = new ArrayList<>();
    private final ArrayList<Scenario> scenarios = new ArrayList<>();
    private final ArrayList<Claim> damages = new ArrayList<>();
    private final Flow real = new Flow();
    private final Flow trial = new Flow();
    private final Pool pool = new Pool();
    private boolean isSettled = false;

    public Layertreaty() {
    }

    // ---- policies and losses ----

    public int policy(int sum, int zone, int first, int last) throws IllegalArgumentException, IllegalStateException {
        if (isOut(sum, 1, MILLION) || isOut(zone, 0, ZONES - 1) || !isSpan(first, last)) {
            throw new IllegalArgumentException("no such sum, zone or days");
        }
        if (policies.size() >= MOST_POLICIES) {
            throw new IllegalStateException("no more policies");
        }
        Policy added = new Policy(sum, zone, first, last);
        policies.add(added);
        damages.add(new Claim(added));
        return policies.size() - 1;
    }

    public int loss(int policy, int day, int told, int amount)
            throws IndexOutOfBoundsException, IllegalArgumentException, UnsupportedOperationException, IllegalStateException {
        if (isOut(policy, 0, policies.size() - 1)) {
            throw new IndexOutOfBoundsException("no such policy");
        }
        if (!isSpan(day, told) || isOut(amount, 0, MILLION)) {
            throw new IllegalArgumentException("no such days or amount");
        }
        Policy lossMaker = policies.get(policy);
        if (!lossMaker.isInForce(day)) {
            throw new UnsupportedOperationException("not in force on this day");
        }
        if (claims.size() >= MOST_LOSSES) {
            throw new IllegalStateException("no more losses");
        }
        Claim added = new Claim(lossMaker);
        added.happen(day, told, amount);
        claims.add(added);
        real.addByDay(added);
        isSettled = false;
        return claims.size() - 1;
    }

    public int setAmount(int loss, int amount) throws IndexOutOfBoundsException, IllegalArgumentException {
        Claim claim = claimAt(loss);
        if (isOut(amount, 0, MILLION)) {
            throw new IllegalArgumentException("no such amount");
        }
        int before = claim.amount;
        claim.amount = amount;
        isSettled = false;
        return before;
    }

    // ---- treaties ----

    public int treaty(char kind, char basis, int first, int last, int a, int b)
            throws IllegalArgumentException, IllegalStateException {
        if (!isSpan(first, last) || !isBasis(basis) || !fitsKind(kind, a, b)) {
            throw new IllegalArgumentException("no such treaty");
        }
        if (terms.size() >= MOST_TREATIES) {
            throw new IllegalStateException("no more treaties");
        }
        Treaty added = new Treaty(terms.size(), kind, basis, first, last, a, b);
        terms.add(added);
        real.covers.add(new Cover(added));
        trial.covers.add(new Cover(added));
        isSettled = false;
        return added.number;
    }

    public int setDays(int treaty, int days) throws IndexOutOfBoundsException, IllegalArgumentException {
        Treaty changed = treatyAt(treaty);
        if (isOut(days, 1, 9)) {
            throw new IllegalArgumentException("no such number of days");
        }
        int before = changed.days;
        changed.days = days;
        isSettled = false;
        return before;
    }

    public int reinstate(int treaty, int many, int price, boolean isByTime)
            throws IndexOutOfBoundsException, IllegalArgumentException, UnsupportedOperationException {
        Treaty changed = treatyAt(treaty);
        if (isOut(many, 0, 5) || isOut(price, 0, 200)) {
            throw new IllegalArgumentException("no such number or price");
        }
        if (!changed.isLimited()) {
            throw new UnsupportedOperationException("neither r nor e");
        }
        int before = changed.many;
        changed.many = many;
        changed.price = price;
        changed.isByTime = isByTime;
        isSettled = false;
        return before;
    }

    public int setPremium(int treaty, int premium) throws IndexOutOfBoundsException, IllegalArgumentException {
        Treaty changed = treatyAt(treaty);
        if (isOut(premium, 0, MILLION)) {
            throw new IllegalArgumentException("no such premium");
        }
        int before = changed.premium;
        changed.premium = premium;
        isSettled = false;
        return before;
    }

    public int share(int treaty, int reinsurer, int share)
            throws IndexOutOfBoundsException, IllegalArgumentException, UnsupportedOperationException {
        Treaty changed = treatyAt(treaty);
        checkReinsurer(reinsurer);
        if (isOut(share, 0, 100)) {
            throw new IllegalArgumentException("no such share");
        }
        int before = changed.shares[reinsurer];
        if (changed.allShares() - before + share > 100) {
            throw new UnsupportedOperationException("shares of more than 100");
        }
        changed.shares[reinsurer] = share;
        return before;
    }

    public boolean fail(int reinsurer, boolean is) throws IndexOutOfBoundsException {
        checkReinsurer(reinsurer);
        boolean before = pool.isFailed[reinsurer];
        pool.isFailed[reinsurer] = is;
        return before;
    }

    public boolean handOn(int from, int to, int bound, int limit)
            throws IndexOutOfBoundsException, IllegalArgumentException {
        checkReinsurer(from);
        checkReinsurer(to);
        if (from == to || isOut(bound, 0, MILLION) || isOut(limit, 0, MILLION)) {
            throw new IllegalArgumentException("no such retrocession");
        }
        boolean wasOne = pool.limits[from] > 0;
        pool.receivers[from] = to;
        pool.bounds[from] = bound;
        pool.limits[from] = limit;
        return wasOne;
    }

    public long commute(int treaty, int price)
            throws IndexOutOfBoundsException, IllegalArgumentException, UnsupportedOperationException {
        Cover cover = coverAt(treaty);
        if (isOut(price, 0, MILLION)) {
            throw new IllegalArgumentException("no such price");
        }
        if (cover.treaty.isCommuted) {
            throw new UnsupportedOperationException("commuted before");
        }
        settle();
        cover.treaty.isCommuted = true;
        cover.treaty.commutedFor = price;
        isSettled = false;
        return cover.taken;
    }

    // ---- what losses and treaties come to ----

    public long left(int loss) throws IndexOutOfBoundsException {
        Claim claim = claimAt(loss);
        settle();
        return claim.left;
    }

    public long taken(int treaty) throws IndexOutOfBoundsException {
        settle();
        return coverAt(treaty).taken;
    }

    public long takenFrom(int treaty, int loss) throws IndexOutOfBoundsException {
        Treaty asked = treatyAt(treaty);
        Claim claim = claimAt(loss);
        settle();
        return claim.took[asked.number];
    }

    public long limit(int treaty) throws IndexOutOfBoundsException, UnsupportedOperationException, IllegalStateException {
        Cover cover = coverAt(treaty);
        if (!cover.treaty.isLimited()) {
            throw new UnsupportedOperationException("a limit without end");
        }
        if (cover.treaty.isCommuted) {
            throw new IllegalStateException("commuted");
        }
        settle();
        return cover.limitLeft;
    }

    public long reinstated(int treaty) throws IndexOutOfBoundsException {
        settle();
        return coverAt(treaty).reinstated;
    }

    public long owed(int treaty) throws IndexOutOfBoundsException {
        settle();
        return coverAt(treaty).owed;
    }

    public int events(int treaty, int zone)
            throws IndexOutOfBoundsException, IllegalArgumentException, UnsupportedOperationException {
        Cover cover = coverAt(treaty);
        if (isOut(zone, 0, ZONES - 1)) {
            throw new IllegalArgumentException("no such zone");
        }
        checkHasEvents(cover.treaty);
        settle();
        return cover.events[zone];
    }

    public int eventOf(int treaty, int loss)
            throws IndexOutOfBoundsException, UnsupportedOperationException, NoSuchElementException {
        Treaty asked = treatyAt(treaty);
        Claim claim = claimAt(loss);
        checkHasEvents(asked);
        settle();
        int event = claim.events[asked.number];
        if (event == NO_EVENT) {
            throw new NoSuchElementException("in no event");
        }
        return event;
    }

    public boolean isSame(int treaty) throws IndexOutOfBoundsException, UnsupportedOperationException {
        Treaty asked = treatyAt(treaty);
        checkHasEvents(asked);
        return real.isLaidBest(asked);
    }

    // ---- what reinsurers and the cedent bear ----

    public long paid(int treaty, int reinsurer) throws IndexOutOfBoundsException {
        Treaty asked = treatyAt(treaty);
        checkReinsurer(reinsurer);
        settle();
        return pool.isFailed[reinsurer] ? 0 : real.partOf(asked, reinsurer);
    }

    public long lost(int reinsurer) throws IndexOutOfBoundsException {
        checkReinsurer(reinsurer);
        settle();
        return pool.isFailed[reinsurer] ? real.allPartsOf(reinsurer) : 0;
    }

    public long comes(int reinsurer) throws IndexOutOfBoundsException {
        checkReinsurer(reinsurer);
        settlePool();
        return pool.comes[reinsurer];
    }

    public long stays(int reinsurer) throws IndexOutOfBoundsException {
        checkReinsurer(reinsurer);
        settlePool();
        return pool.comes[reinsurer] - pool.handedOn(reinsurer, pool.comes[reinsurer]);
    }

    public long net() {
        settle();
        long net = real.allLeft();
        for (int i = 0; i < real.covers.size(); i++) {
            Cover cover = real.covers.get(i);
            net += cover.owed;
            if (cover.treaty.isCommuted) {
                net -= cover.taken + cover.treaty.commutedFor;
            } else {
                net += cover.taken;
            }
        }
        // Of a commuted treaty there are no parts, and what one that failed does not pay is the cedent's.
        for (int reinsurer = 0; reinsurer < REINSURERS; reinsurer++) {
            if (!pool.isFailed[reinsurer]) {
                net -= real.allPartsOf(reinsurer);
            }
        }
        return net;
    }

    // ---- scenarios ----

    public int scenario(int day, int weight) throws IllegalArgumentException, IllegalStateException {
        if (isOut(day, 0, LAST_DAY) || isOut(weight, 1, 9)) {
            throw new IllegalArgumentException("no such day or weight");
        }
        if (scenarios.size() >= MOST_SCENARIOS) {
            throw new IllegalStateException("no more scenarios");
        }
        scenarios.add(new Scenario(day, weight));
        return scenarios.size() - 1;
    }

    public int damage(int scenario, int zone, int hundredths) throws IndexOutOfBoundsException, IllegalArgumentException {
        Scenario changed = scenarioAt(scenario);
        if (isOut(zone, 0, ZONES - 1) || isOut(hundredths, 0, 100)) {
            throw new IllegalArgumentException("no such zone or damage");
        }
        int before = changed.damages[zone];
        changed.damages[zone] = hundredths;
        return before;
    }

    public long scenarioNet(int scenario) throws IndexOutOfBoundsException {
        Scenario asked = scenarioAt(scenario);
        play(asked);
        return asked.net;
    }

    public long tail(int hundredths) throws IllegalArgumentException, NoSuchElementException {
        if (isOut(hundredths, 0, 99)) {
            throw new IllegalArgumentException("no such hundredths");
        }
        if (scenarios.isEmpty()) {
            throw new NoSuchElementException("no scenarios");
        }
        playAll();
        int allowed = hundredths * weightAbove(-1);
        long least = MORE_THAN_ALL;
        for (int i = 0; i < scenarios.size(); i++) {
            long net = scenarios.get(i).net;
            if (net < least && weightAbove(net) * 100 <= allowed) {
                least = net;
            }
        }
        return least;
    }

    // ---- numbers of all ----

    public int losses() {
        return claims.size();
    }

    public int treaties() {
        return terms.size();
    }

    public long allLosses() {
        long sum = 0;
        for (int i = 0; i < claims.size(); i++) {
            sum += claims.get(i).amount;
        }
        return sum;
    }

    public float leftShare() throws ArithmeticException {
        long sum = allLosses();
        if (sum == 0) {
            throw new ArithmeticException("no losses");
        }
        settle();
        return (float) real.allLeft() / (float) sum;
    }

    public double meanNet() throws ArithmeticException {
        if (scenarios.isEmpty()) {
            throw new ArithmeticException("no scenarios");
        }
        playAll();
        long sum = 0;
        long weights = 0;
        for (int i = 0; i < scenarios.size(); i++) {
            Scenario scenario = scenarios.get(i);
            sum += scenario.net * scenario.weight;
            weights += scenario.weight;
        }
        return (double) sum / (double) weights;
    }

    public boolean isSound() {
        settlePool();
        return real.areLossesWhole() && real.areLimitsKept() && pool.fits();
    }

    // ---- what the methods above share ----

    private static boolean isOut(int number, int least, int most) {
        return number < least || number > most;
    }

    private static boolean isSpan(int first, int last) {
        return first >= 0 && first <= last && last <= LAST_DAY;
    }

    private static boolean isBasis(char basis) {
        return basis == 'o' || basis == 'a' || basis == 'c';
    }

    private static boolean fitsKind(char kind, int a, int b) {
        if (kind == 'q') {
            return !isOut(a, 0, 100);
        }
        if (kind == 's') {
            return !isOut(a, 1, MILLION) && !isOut(b, 1, 20);
        }
        return (kind == 'r' || kind == 'e' || kind == 'a') && !isOut(a, 0, MILLION) && !isOut(b, 1, MILLION);
    }

    private Claim claimAt(int loss) {
        if (isOut(loss, 0, claims.size() - 1)) {
            throw new IndexOutOfBoundsException("no such loss");
        }
        return claims.get(loss);
    }

    private Treaty treatyAt(int treaty) {
        if (isOut(treaty, 0, terms.size() - 1)) {
            throw new IndexOutOfBoundsException("no such treaty");
        }
        return terms.get(treaty);
    }

    private Cover coverAt(int treaty) {
        if (isOut(treaty, 0, real.covers.size() - 1)) {
            throw new IndexOutOfBoundsException("no such treaty");
        }
        return real.covers.get(treaty);
    }

    private Scenario scenarioAt(int scenario) {
        if (isOut(scenario, 0, scenarios.size() - 1)) {
            throw new IndexOutOfBoundsException("no such scenario");
        }
        return scenarios.get(scenario);
    }

    private static void checkReinsurer(int reinsurer) {
        if (isOut(reinsurer, 0, REINSURERS - 1)) {
            throw new IndexOutOfBoundsException("no such reinsurer");
        }
    }

    private static void checkHasEvents(Treaty treaty) {
        if (treaty.kind != 'e') {
            throw new UnsupportedOperationException("no treaty with events");
        }
    }

    private void settle() {
        if (!isSettled) {
            real.run(NO_TREATY);
            isSettled = true;
        }
    }

    private void settlePool() {
        settle();
        for (int reinsurer = 0; reinsurer < REINSURERS; reinsurer++) {
            pool.own[reinsurer] = pool.isFailed[reinsurer] ? 0 : real.allPartsOf(reinsurer);
        }
        pool.settleRings();
    }

    private void playAll() {
        for (int i = 0; i < scenarios.size(); i++) {
            play(scenarios.get(i));
        }
    }

    private void play(Scenario scenario) {
        trial.claims.clear();
        for (int i = 0; i < damages.size(); i++) {
            Claim claim = damages.get(i);
            int amount = scenario.damageOf(claim.policy);
            if (amount > 0) {
                claim.happen(scenario.day, scenario.day, amount);
                trial.claims.add(claim);
            }
        }
        trial.run(NO_TREATY);
        scenario.net = trial.allLeft();
    }

    private int weightAbove(long net) {
        int weights = 0;
        for (int i = 0; i < scenarios.size(); i++) {
            if (scenarios.get(i).net > net) {
                weights += scenarios.get(i).weight;
            }
        }
        return weights;
    }

    /** A policy as it was written. */
    private static final class Policy {
        final int sum;
        final int zone;
        final int first;
        final int last;

        Policy(int sum, int zone, int first, int last) {
            this.sum = sum;
            this.zone = zone;
            this.first = first;
            this.last = last;
        }

        boolean isInForce(int day) {
            return first <= day && day <= last;
        }
    }

    /** A loss of a policy, and what became of it when it last went through the treaties. */
    private static final class Claim {
        final Policy policy;
        final long[] took = new long[MOST_TREATIES];
        final int[] events = new int[MOST_TREATIES];
        int day = 0;
        int told = 0;
        int amount = 0;
        long left = 0;

        Claim(Policy policy) {
            this.policy = policy;
        }

        void happen(int onDay, int toldOn, int ofAmount) {
            day = onDay;
            told = toldOn;
            amount = ofAmount;
        }

        void begin() {
            left = amount;
            Arrays.fill(took, 0);
            Arrays.fill(events, NO_EVENT);
        }
    }

    /** A day, its damage for each zone, and the net when it was last played. */
    private static final class Scenario {
        final int day;
        final int weight;
        final int[] damages = new int[ZONES];
        long net = 0;

        Scenario(int day, int weight) {
            this.day = day;
            this.weight = weight;
        }

        int damageOf(Policy policy) {
            return policy.isInForce(day) ? (int) ((long) policy.sum * damages[policy.zone] / 100) : 0;
        }
    }

    /** What was agreed in a treaty. */
    private static final class Treaty {
        final int number;
        final char kind;
        final char basis;
        final int first;
        final int last;
        final int a;
        final int b;
        final int[] shares = new int[REINSURERS];
        int days = 3;
        int many = 0;
        int price = 0;
        boolean isByTime = false;
        int premium = 0;
        boolean isCommuted = false;
        int commutedFor = 0;

        Treaty(int number, char kind, char basis, int first, int last, int a, int b) {
            this.number = number;
            this.kind = kind;
            this.basis = basis;
            this.first = first;
            this.last = last;
            this.a = a;
            this.b = b;
        }

        boolean isLimited() {
            return kind == 'r' || kind == 'e';
        }

        long wholeLimit() {
            return isLimited() ? (long) b * (1 + many) : MORE_THAN_ALL;
        }

        boolean isForEachLoss() {
            return kind == 'q' || kind == 's' || kind == 'r';
        }

        boolean coversLoss(Claim claim) {
            int day = basis == 'o' ? claim.day : basis == 'a' ? claim.policy.first : claim.told;
            return !isCommuted && first <= day && day <= last;
        }

        long layerOf(long sum) {
            return Math.max(0, Math.min(sum - a, b));
        }

        /** What it takes over of one loss, if its limit has that left. */
        long wantedOf(Claim claim) {
            if (kind == 'q') {
                return claim.left * a / 100;
            }
            if (kind == 's') {
                int sum = claim.policy.sum;
                return sum > a ? claim.left * Math.min(sum - a, a * b) / sum : 0;
            }
            return layerOf(claim.left);
        }

        long priceOf(long again, int day) {
            long cost = premium * again * price / (b * 100L);
            if (isByTime) {
                cost = cost * Math.max(0, last - day + 1) / (last - first + 1);
            }
            return cost;
        }

        int allShares() {
            int sum = 0;
            for (int i = 0; i < shares.length; i++) {
                sum += shares[i];
            }
            return sum;
        }
    }

    /** What a treaty takes, reinstates and costs in one flow. */
    private static final class Cover {
        final Treaty treaty;
        final int[] events = new int[ZONES];
        long limitLeft = 0;
        long taken = 0;
        long reinstated = 0;
        long owed = 0;

        Cover(Treaty treaty) {
            this.treaty = treaty;
        }

        void begin() {
            Arrays.fill(events, 0);
            // What a treaty took until it was commuted stays.
            if (!treaty.isCommuted) {
                limitLeft = treaty.wholeLimit();
                taken = 0;
                reinstated = 0;
                owed = 0;
            }
        }

        void takeFrom(Claim claim, long amount) {
            claim.left -= amount;
            claim.took[treaty.number] += amount;
            limitLeft -= amount;
            taken += amount;
        }

        void refill(long amount, int day) {
            if (treaty.isLimited()) {
                long again = Math.min(amount, (long) treaty.b * treaty.many - reinstated);
                reinstated += again;
                owed += treaty.priceOf(again, day);
            }
        }
    }

    /** The days of one zone on which a treaty has losses, and the best way to lay them into events. */
    private static final class Laying {
        private static final int MOST_TRIED = 12;

        final int[] days = new int[MOST_LOSSES];
        final long[] sums = new long[MOST_LOSSES];
        /** For each place in the row of days: where the event ends that begins there. */
        final int[] ends = new int[MOST_LOSSES];
        /** For each place: what the days from there on bring, and by how many events. */
        final long[] brings = new long[MOST_LOSSES + 1];
        final int[] counts = new int[MOST_LOSSES + 1];
        int size = 0;

        /** Adds a loss that is not ahead of those added before. */
        void add(Claim claim) {
            if (size > 0 && days[size - 1] == claim.day) {
                sums[size - 1] += claim.left;
            } else if (size < days.length) {
                days[size] = claim.day;
                sums[size] = claim.left;
                size++;
            }
        }

        void lay(Treaty treaty) {
            brings[size] = 0;
            counts[size] = 0;
            for (int from = size - 1; from >= 0; from--) {
                long sum = 0;
                for (int end = from; end < size && days[end] - days[from] < treaty.days; end++) {
                    sum += sums[end];
                    long most = treaty.layerOf(sum) + brings[end + 1];
                    int count = 1 + counts[end + 1];
                    // Of ends that are equally good the last one counts.
                    if (end == from || most > brings[from] || most == brings[from] && count <= counts[from]) {
                        brings[from] = most;
                        counts[from] = count;
                        ends[from] = end;
                    }
                }
            }
        }

        /**
         * Whether going through all layings finds the same one. A laying is told by its cuts: a bit for each day
         * but the last one, the first day's being the highest, set where an event ends. So, of layings equally
         * good, the one that comes first by rising numbers is that whose first events end last.
         */
        boolean isBestOfAll(Treaty treaty) {
            if (size == 0 || size > MOST_TRIED) {
                return true;
            }
            int bestCuts = 0;
            int bestCount = 0;
            long most = -1;
            int end = 1 << (size - 1);
            for (int cuts = 0; cuts < end; cuts++) {
                int count = 1 + Integer.bitCount(cuts);
                long worth = worthOf(cuts, treaty);
                if (worth > most || worth == most && count < bestCount) {
                    most = worth;
                    bestCount = count;
                    bestCuts = cuts;
                }
            }
            return bestCuts == laidCuts();
        }

        private boolean isCut(int cuts, int place) {
            return place == size - 1 || (cuts >> (size - 2 - place) & 1) == 1;
        }

        /** What a laying would bring, or -1 if one of its events is too long. */
        private long worthOf(int cuts, Treaty treaty) {
            long worth = 0;
            long sum = 0;
            int firstDay = days[0];
            for (int place = 0; place < size; place++) {
                if (sum == 0) {
                    firstDay = days[place];
                }
                if (days[place] - firstDay >= treaty.days) {
                    return -1;
                }
                sum += sums[place];
                if (isCut(cuts, place)) {
                    worth += treaty.layerOf(sum);
                    sum = 0;
                }
            }
            return worth;
        }

        private int laidCuts() {
            int cuts = 0;
            int end = -1;
            for (int place = 0; place < size - 1; place++) {
                if (place > end) {
                    end = ends[place];
                }
                if (place == end) {
                    cuts |= 1 << (size - 2 - place);
                }
            }
            return cuts;
        }
    }

    /** The way of some losses through all treaties. */
    private static final class Flow {
        /** In the order in which they go through the treaties. */
        final ArrayList<Claim> claims = new ArrayList<>();
        final ArrayList<Cover> covers = new ArrayList<>();
        /** Those that a treaty covers and of which something is left. */
        private final ArrayList<Claim> open = new ArrayList<>();
        /** Those of which something is taken together. */
        private final ArrayList<Claim> group = new ArrayList<>();
        private final Laying laying = new Laying();
        private boolean isBest = true;

        void addByDay(Claim claim) {
            int place = claims.size();
            for (int i = claims.size() - 1; i >= 0 && claims.get(i).day > claim.day; i--) {
                place = i;
            }
            claims.add(place, claim);
        }

        boolean isLaidBest(Treaty treaty) {
            run(treaty.number);
            return isBest;
        }

        /** Lets all losses go through the treaties, and tries all layings of the treaty of this number. */
        void run(int tried) {
            isBest = true;
            for (int i = 0; i < claims.size(); i++) {
                claims.get(i).begin();
            }
            for (int i = 0; i < covers.size(); i++) {
                covers.get(i).begin();
            }
            for (int i = 0; i < claims.size(); i++) {
                serveLoss(claims.get(i));
            }
            for (int i = 0; i < covers.size(); i++) {
                if (covers.get(i).treaty.kind == 'e') {
                    findOpen(covers.get(i));
                    for (int zone = 0; zone < ZONES; zone++) {
                        serveZone(covers.get(i), zone, i == tried);
                    }
                }
            }
            for (int i = 0; i < covers.size(); i++) {
                if (covers.get(i).treaty.kind == 'a') {
                    findOpen(covers.get(i));
                    gather(ANY_ZONE, 0, LAST_DAY);
                    serveGroup(covers.get(i));
                }
            }
        }

        private void serveLoss(Claim claim) {
            for (int i = 0; i < covers.size(); i++) {
                Cover cover = covers.get(i);
                if (cover.treaty.isForEachLoss() && cover.treaty.coversLoss(claim)) {
                    long amount = Math.min(cover.treaty.wantedOf(claim), cover.limitLeft);
                    cover.takeFrom(claim, amount);
                    cover.refill(amount, claim.day);
                }
            }
        }

        /** Lays the open losses of a zone into events and serves these by time. */
        private void serveZone(Cover cover, int zone, boolean isTried) {
            laying.size = 0;
            for (int i = 0; i < open.size(); i++) {
                if (open.get(i).policy.zone == zone) {
                    laying.add(open.get(i));
                }
            }
            laying.lay(cover.treaty);
            if (isTried && !laying.isBestOfAll(cover.treaty)) {
                isBest = false;
            }
            int end = -1;
            for (int place = 0; place < laying.size; place++) {
                if (place > end) {
                    end = laying.ends[place];
                    gather(zone, laying.days[place], laying.days[end]);
                    for (int i = 0; i < group.size(); i++) {
                        group.get(i).events[cover.treaty.number] = cover.events[zone];
                    }
                    cover.events[zone]++;
                    cover.refill(serveGroup(cover), laying.days[place]);
                }
            }
        }

        private void findOpen(Cover cover) {
            open.clear();
            for (int i = 0; i < claims.size(); i++) {
                if (claims.get(i).left > 0 && cover.treaty.coversLoss(claims.get(i))) {
                    open.add(claims.get(i));
                }
            }
        }

        private void gather(int zone, int first, int last) {
            group.clear();
            for (int i = 0; i < open.size(); i++) {
                Claim claim = open.get(i);
                boolean isThere = zone == ANY_ZONE || claim.policy.zone == zone;
                if (isThere && first <= claim.day && claim.day <= last) {
                    group.add(claim);
                }
            }
        }

        /** Takes from the losses of the group together, and returns how much. */
        private long serveGroup(Cover cover) {
            long sum = 0;
            for (int i = 0; i < group.size(); i++) {
                sum += group.get(i).left;
            }
            if (sum <= 0) {
                return 0;
            }
            long amount = Math.min(cover.treaty.layerOf(sum), cover.limitLeft);
            long rest = amount;
            for (int i = 0; i < group.size(); i++) {
                rest -= amount * group.get(i).left / sum;
            }
            for (int i = 0; i < group.size(); i++) {
                Claim claim = group.get(i);
                long part = amount * claim.left / sum + (i < rest ? 1 : 0);
                cover.takeFrom(claim, part);
            }
            return amount;
        }

        long allLeft() {
            long sum = 0;
            for (int i = 0; i < claims.size(); i++) {
                sum += claims.get(i).left;
            }
            return sum;
        }

        /** What a reinsurer has to pay by a treaty, whether it failed or not. */
        long partOf(Treaty treaty, int reinsurer) {
            long sum = 0;
            for (int i = 0; i < claims.size(); i++) {
                sum += claims.get(i).took[treaty.number] * treaty.shares[reinsurer] / 100;
            }
            return sum;
        }

        long allPartsOf(int reinsurer) {
            long sum = 0;
            for (int i = 0; i < covers.size(); i++) {
                sum += partOf(covers.get(i).treaty, reinsurer);
            }
            return sum;
        }

        boolean areLossesWhole() {
            for (int i = 0; i < claims.size(); i++) {
                Claim claim = claims.get(i);
                long sum = claim.left;
                for (int k = 0; k < claim.took.length; k++) {
                    sum += claim.took[k];
                }
                if (sum != claim.amount) {
                    return false;
                }
            }
            return true;
        }

        boolean areLimitsKept() {
            for (int i = 0; i < covers.size(); i++) {
                Cover cover = covers.get(i);
                if (!cover.treaty.isCommuted && cover.taken > cover.treaty.wholeLimit()) {
                    return false;
                }
            }
            return true;
        }
    }

    /** The reinsurers: who failed, who hands on to whom, and what comes to each. */
    private static final class Pool {
        /** So many rounds take what comes in once along each chain and once round each ring. */
        private static final int ENOUGH_ROUNDS = 2 * REINSURERS;

        final boolean[] isFailed = new boolean[REINSURERS];
        final int[] receivers = new int[REINSURERS];
        final int[] bounds = new int[REINSURERS];
        final int[] limits = new int[REINSURERS];
        final long[] own = new long[REINSURERS];
        final long[] comes = new long[REINSURERS];
        private final long[] early = new long[REINSURERS];
        private final long[] above = new long[REINSURERS];
        private final long[] before = new long[REINSURERS];

        long handedOn(int from, long coming) {
            return isFailed[from] ? 0 : Math.max(0, Math.min(coming - bounds[from], limits[from]));
        }

        /**
         * Finds the least that fits, from below. Where a ring still rises when all has gone round once, it rises
         * by the same with each round until a limit stops it: there what is found from above is the least, too.
         */
        void settleRings() {
            Arrays.fill(comes, 0);
            goRounds(comes, ENOUGH_ROUNDS);
            System.arraycopy(comes, 0, early, 0, REINSURERS);
            goRounds(comes, REINSURERS);
            Arrays.fill(above, MORE_THAN_ALL);
            goRounds(above, ENOUGH_ROUNDS);
            for (int i = 0; i < REINSURERS; i++) {
                if (comes[i] != early[i]) {
                    comes[i] = above[i];
                }
            }
        }

        boolean fits() {
            System.arraycopy(comes, 0, above, 0, REINSURERS);
            goRounds(above, 1);
            for (int i = 0; i < REINSURERS; i++) {
                if (above[i] != comes[i]) {
                    return false;
                }
            }
            return true;
        }

        private void goRounds(long[] now, int rounds) {
            for (int round = 0; round < rounds; round++) {
                System.arraycopy(now, 0, before, 0, REINSURERS);
                System.arraycopy(own, 0, now, 0, REINSURERS);
                for (int i = 0; i < REINSURERS; i++) {
                    now[receivers[i]] += handedOn(i, before[i]);
                }
            }
        }
    }
}
