import java.util.NoSuchElementException;

/** For each number that a call takes: the least and the greatest that are allowed, and the ones beyond. */
final class RangeTest {
    private static final Class<IndexOutOfBoundsException> INDEX = IndexOutOfBoundsException.class;
    private static final Class<IllegalArgumentException> ARGUMENT = IllegalArgumentException.class;
    private static final Class<UnsupportedOperationException> UNSUPPORTED = UnsupportedOperationException.class;
    private static final int LEAST = Integer.MIN_VALUE;
    private static final int MOST = Integer.MAX_VALUE;
    private static final String KINDS = "qsrea";
    private static final Checks IS = new Checks();

    interface Call { Object with(int number); }

    public static void main(String[] args) {
        IS.runAll(RangeTest.class);
    }

    /** The numbers from least to most are taken, those beyond are refused. */
    private static void range(String what, int least, int most, Class<? extends RuntimeException> beyond, Call call) {
        near(what, least, most, beyond, call);
        IS.dueThrow(beyond, () -> call.with(LEAST));
        IS.dueThrow(beyond, () -> call.with(MOST));
        // Numbers that a narrower type would take for good ones.
        IS.dueThrow(beyond, () -> call.with(least + (1 << 16) * 100));
        IS.dueThrow(beyond, () -> call.with(least - (1 << 16) * 100));
    }

    private static void near(String what, int least, int most, Class<? extends RuntimeException> beyond, Call call) {
        IS.at(what);
        IS.dueNoThrow(() -> call.with(least));
        IS.dueNoThrow(() -> call.with(most));
        IS.dueThrow(beyond, () -> call.with(least - 1));
        IS.dueThrow(beyond, () -> call.with(most + 1));
    }

    // ---- promises 2 to 4 ----

    static void policySum() {
        range("policy: the sum, 1 to 1000000", 1, 1000000, ARGUMENT, v -> new Layertreaty().policy(v, 0, 0, 0));
        // The least and the greatest sum are what damage is a part of.
        Layertreaty x = new Layertreaty();
        x.policy(1, 0, 0, 0);
        x.policy(1000000, 1, 0, 0);
        x.scenario(0, 1);
        x.damage(0, 0, 100);
        IS.due(1, x.scenarioNet(0));
        x.damage(0, 1, 100);
        IS.due(1000001, x.scenarioNet(0));
    }

    static void policyZone() {
        range("policy: a zone from 0 to 3", 0, 3, ARGUMENT, v -> new Layertreaty().policy(1, v, 0, 0));
        Layertreaty x = Markets.market(10);
        x.treaty('e', 'o', 0, 999, 0, 1);
        for (int zone = 0; zone < 4; zone++) {
            IS.due(0, x.events(0, zone));
            x.loss(zone, 0, 0, 1);
            IS.due(1, x.events(0, zone));
        }
    }

    static void policyFirstDay() {
        range("policy: days are from 0 to 999, first", 0, 999, ARGUMENT, v -> new Layertreaty().policy(1, 0, v, 999));
    }

    static void policyLastDay() {
        range("policy: days are from 0 to 999, last", 0, 999, ARGUMENT, v -> new Layertreaty().policy(1, 0, 0, v));
    }

    static void policyLastDayNotAheadOfFirst() {
        range("policy: the last day is ahead of the first one", 500, 999, ARGUMENT, v -> new Layertreaty().policy(1, 0, 500, v));
        range("policy: the first day is behind the last one", 0, 500, ARGUMENT, v -> new Layertreaty().policy(1, 0, v, 500));
        IS.at("policy: of one day, the first or the last of all");
        IS.due(0, new Layertreaty().policy(1, 0, 0, 0));
        IS.due(0, new Layertreaty().policy(1, 0, 999, 999));
        IS.dueThrow(ARGUMENT, () -> new Layertreaty().policy(1, 0, 1, 0));
        IS.dueThrow(ARGUMENT, () -> new Layertreaty().policy(1, 0, 999, 998));
    }

    static void lossPolicy() {
        range("loss: no such policy", 0, 3, INDEX, v -> Markets.market(10).loss(v, 0, 0, 0));
        IS.at("loss: no policies");
        IS.dueThrow(INDEX, () -> new Layertreaty().loss(0, 0, 0, 0));
    }

    static void lossDay() {
        range("loss: days are from 0 to 999", 0, 999, ARGUMENT, v -> Markets.market(10).loss(0, v, 999, 0));
    }

    static void lossTold() {
        range("loss: told on days from 0 to 999", 0, 999, ARGUMENT, v -> Markets.market(10).loss(0, 0, v, 0));
    }

    static void lossToldNotAheadOfItsDay() {
        range("loss: told ahead of its day", 500, 999, ARGUMENT, v -> Markets.market(10).loss(0, 500, v, 0));
        range("loss: its day behind that on which it was told", 0, 500, ARGUMENT, v -> Markets.market(10).loss(0, v, 500, 0));
        range("loss: told on the last day", 999, 999, ARGUMENT, v -> Markets.market(10).loss(0, 999, v, 0));
    }

    static void lossAmount() {
        range("loss: the amount, 0 to 1000000", 0, 1000000, ARGUMENT, v -> Markets.market(10).loss(0, 0, 0, v));
        Layertreaty x = Markets.market(10);
        x.loss(0, 0, 0, 0);
        IS.due(0, x.left(0));
        x.loss(0, 0, 0, 1000000);
        IS.due(1000000, x.left(1));
    }

    static void lossInForce() {
        Call told = v -> {
            Layertreaty x = new Layertreaty();
            x.policy(10, 0, 100, 200);
            return x.loss(0, v, 999, 0);
        };
        near("loss: the policy is in force on its first and its last day", 100, 200, UNSUPPORTED, told);
        IS.dueThrow(UNSUPPORTED, () -> told.with(0));
        IS.dueThrow(UNSUPPORTED, () -> told.with(999));
        near("loss: a policy of one day", 7, 7, UNSUPPORTED, v -> {
            Layertreaty x = new Layertreaty();
            x.policy(10, 0, 7, 7);
            return x.loss(0, v, v, 0);
        });
        IS.at("loss: it may be told when the policy is in force no more");
        Layertreaty x = new Layertreaty();
        x.policy(10, 0, 7, 7);
        IS.due(0, x.loss(0, 7, 999, 0));
    }

    static void setAmountLoss() {
        range("setAmount: no such loss", 0, 2, INDEX, v -> Markets.daily(1, 2, 3).setAmount(v, 0));
        IS.dueThrow(INDEX, () -> Markets.market(1).setAmount(0, 0));
    }

    static void setAmountAmount() {
        range("setAmount: the amount, 0 to 1000000", 0, 1000000, ARGUMENT, v -> Markets.daily(5).setAmount(0, v));
        Layertreaty x = Markets.daily(5);
        IS.due(5, x.setAmount(0, 0));
        IS.due(0, x.left(0));
        IS.due(0, x.setAmount(0, 1000000));
        IS.due(1000000, x.left(0));
        IS.due(1000000, x.setAmount(0, 1000000));
        IS.due(1000000, x.setAmount(0, 1));
        IS.due(1, x.left(0));
    }

    // ---- promise 5 ----

    static void treatyKind() {
        IS.at("treaty: kind: q, s, r, e or a");
        for (int sign = 0; sign < 65536; sign++) {
            char kind = (char) sign;
            if (KINDS.indexOf(kind) >= 0) {
                IS.due(0, new Layertreaty().treaty(kind, 'o', 0, 0, 1, 1));
            } else {
                Layertreaty x = new Layertreaty();
                IS.dueThrow(ARGUMENT, () -> x.treaty(kind, 'o', 0, 0, 1, 1));
            }
        }
    }

    static void treatyBasis() {
        IS.at("treaty: basis: o, a or c");
        for (int k = 0; k < KINDS.length(); k++) {
            char kind = KINDS.charAt(k);
            for (int sign = 0; sign < 300; sign++) {
                char basis = (char) sign;
                if (basis == 'o' || basis == 'a' || basis == 'c') {
                    IS.due(0, new Layertreaty().treaty(kind, basis, 0, 0, 1, 1));
                } else {
                    IS.dueThrow(ARGUMENT, () -> new Layertreaty().treaty(kind, basis, 0, 0, 1, 1));
                }
            }
            IS.dueThrow(ARGUMENT, () -> new Layertreaty().treaty(kind, (char) ('o' + 256), 0, 0, 1, 1));
            IS.dueThrow(ARGUMENT, () -> new Layertreaty().treaty(kind, Character.MAX_VALUE, 0, 0, 1, 1));
        }
    }

    static void treatyDays() {
        for (int k = 0; k < KINDS.length(); k++) {
            char kind = KINDS.charAt(k);
            range("treaty " + kind + ": its first day", 0, 999, ARGUMENT, v -> new Layertreaty().treaty(kind, 'o', v, 999, 1, 1));
            range("treaty " + kind + ": its last day", 0, 999, ARGUMENT, v -> new Layertreaty().treaty(kind, 'o', 0, v, 1, 1));
            range("treaty " + kind + ": the last day is ahead of the first one", 500, 999, ARGUMENT,
                    v -> new Layertreaty().treaty(kind, 'c', 500, v, 1, 1));
            range("treaty " + kind + ": the first day is behind the last one", 0, 500, ARGUMENT,
                    v -> new Layertreaty().treaty(kind, 'a', v, 500, 1, 1));
        }
    }

    static void treatyA() {
        range("treaty q: a, 0 to 100", 0, 100, ARGUMENT, v -> new Layertreaty().treaty('q', 'o', 0, 0, v, 1));
        range("treaty s: a, from 1 on to 1000000", 1, 1000000, ARGUMENT, v -> new Layertreaty().treaty('s', 'o', 0, 0, v, 1));
        range("treaty r: a, 0 to 1000000", 0, 1000000, ARGUMENT, v -> new Layertreaty().treaty('r', 'o', 0, 0, v, 1));
        range("treaty e: a, 0 to 1000000", 0, 1000000, ARGUMENT, v -> new Layertreaty().treaty('e', 'o', 0, 0, v, 1));
        range("treaty a: a, 0 to 1000000", 0, 1000000, ARGUMENT, v -> new Layertreaty().treaty('a', 'o', 0, 0, v, 1));
    }

    static void treatyB() {
        range("treaty s: b, 1 to 20", 1, 20, ARGUMENT, v -> new Layertreaty().treaty('s', 'o', 0, 0, 1, v));
        range("treaty r: b, 1 to 1000000", 1, 1000000, ARGUMENT, v -> new Layertreaty().treaty('r', 'o', 0, 0, 0, v));
        range("treaty e: b, 1 to 1000000", 1, 1000000, ARGUMENT, v -> new Layertreaty().treaty('e', 'o', 0, 0, 0, v));
        range("treaty a: b, 1 to 1000000", 1, 1000000, ARGUMENT, v -> new Layertreaty().treaty('a', 'o', 0, 0, 0, v));
    }

    static void treatyBOfNoMeaningForQ() {
        IS.at("treaty q: b, of no meaning");
        for (int b : new int[] {LEAST, -1, 0, 1, 1000001, MOST}) {
            Layertreaty x = Markets.daily(200);
            IS.due(0, x.treaty('q', 'o', 0, 999, 25, b));
            IS.due(50, x.taken(0));
            IS.due(0, x.owed(0));
            IS.dueThrow(UNSUPPORTED, () -> x.limit(0));
        }
    }

    static void treatyNew() {
        IS.at("treaty: adds a treaty without reinstatements, premium and shares");
        for (int k = 0; k < KINDS.length(); k++) {
            Layertreaty x = Markets.daily(200);
            x.treaty(KINDS.charAt(k), 'o', 0, 999, 10, 20);
            for (int reinsurer = 0; reinsurer < 5; reinsurer++) {
                IS.due(0, x.paid(0, reinsurer));
                IS.due(0, x.share(0, reinsurer, 20));
            }
            IS.due(0, x.owed(0));
            IS.due(0, x.setPremium(0, 1));
            if (KINDS.charAt(k) == 'r' || KINDS.charAt(k) == 'e') {
                IS.due(0, x.reinstated(0));
                IS.due(0, x.reinstate(0, 1, 1, true));
            }
            IS.due(3, x.setDays(0, 1));
        }
    }

    // ---- promises 6 to 12 ----

    private static Layertreaty withTreaties() {
        Layertreaty x = Markets.daily(100, 100);
        for (int k = 0; k < KINDS.length(); k++) {
            x.treaty(KINDS.charAt(k), 'o', 0, 999, 10, 20);
        }
        return x;
    }

    static void setDaysTreaty() {
        range("setDays: no such treaty", 0, 4, INDEX, v -> withTreaties().setDays(v, 3));
        IS.dueThrow(INDEX, () -> new Layertreaty().setDays(0, 3));
    }

    static void setDaysDays() {
        for (int k = 0; k < KINDS.length(); k++) {
            int treaty = k;
            range("setDays: the number, 1 to 9", 1, 9, ARGUMENT, v -> withTreaties().setDays(treaty, v));
            IS.at("setDays: 3 at first, of every kind");
            Layertreaty x = withTreaties();
            IS.due(3, x.setDays(treaty, 9));
            IS.due(9, x.setDays(treaty, 1));
            IS.due(1, x.setDays(treaty, 1));
        }
    }

    static void reinstateTreaty() {
        range("reinstate: no such treaty", 0, 1, INDEX, v -> {
            Layertreaty x = new Layertreaty();
            x.treaty('r', 'o', 0, 0, 0, 1);
            x.treaty('e', 'o', 0, 0, 0, 1);
            return x.reinstate(v, 0, 0, false);
        });
        IS.dueThrow(INDEX, () -> new Layertreaty().reinstate(0, 0, 0, false));
    }

    static void reinstateMany() {
        for (int k = 2; k < 4; k++) {
            int treaty = k;
            range("reinstate: how many, 0 to 5", 0, 5, ARGUMENT, v -> withTreaties().reinstate(treaty, v, 0, false));
            Layertreaty x = withTreaties();
            IS.due(0, x.reinstate(treaty, 5, 0, false));
            IS.due(5, x.reinstate(treaty, 1, 0, true));
            IS.due(1, x.reinstate(treaty, 0, 200, true));
            IS.due(0, x.reinstate(treaty, 0, 0, true));
        }
    }

    static void reinstatePrice() {
        for (int k = 2; k < 4; k++) {
            int treaty = k;
            range("reinstate: the price in hundredths, 0 to 200", 0, 200, ARGUMENT, v -> withTreaties().reinstate(treaty, 1, v, false));
        }
        Layertreaty x = Markets.single(1000, 100);
        x.treaty('r', 'o', 0, 999, 0, 100);
        x.setPremium(0, 1000000);
        x.reinstate(0, 1, 0, false);
        IS.due(0, x.owed(0));
        x.reinstate(0, 1, 1, false);
        IS.due(10000, x.owed(0));
        x.reinstate(0, 1, 200, false);
        IS.due(2000000, x.owed(0));
    }

    static void reinstateKind() {
        IS.at("reinstate: if it is neither r nor e");
        for (int k = 0; k < KINDS.length(); k++) {
            int treaty = k;
            if (k == 2 || k == 3) {
                IS.due(0, withTreaties().reinstate(treaty, 1, 1, true));
            } else {
                IS.dueThrow(UNSUPPORTED, () -> withTreaties().reinstate(treaty, 1, 1, true));
                IS.dueThrow(UNSUPPORTED, () -> withTreaties().reinstate(treaty, 0, 0, false));
            }
        }
    }

    static void setPremiumTreaty() {
        range("setPremium: no such treaty", 0, 4, INDEX, v -> withTreaties().setPremium(v, 0));
        IS.dueThrow(INDEX, () -> new Layertreaty().setPremium(0, 0));
    }

    static void setPremiumPremium() {
        for (int k = 0; k < KINDS.length(); k++) {
            int treaty = k;
            range("setPremium: the premium, 0 to 1000000", 0, 1000000, ARGUMENT, v -> withTreaties().setPremium(treaty, v));
            Layertreaty x = withTreaties();
            IS.due(0, x.setPremium(treaty, 1000000));
            IS.due(1000000, x.setPremium(treaty, 1));
            IS.due(1, x.setPremium(treaty, 0));
            IS.due(0, x.setPremium(treaty, 0));
        }
    }

    static void shareTreaty() {
        range("share: no such treaty", 0, 4, INDEX, v -> withTreaties().share(v, 0, 0));
        IS.dueThrow(INDEX, () -> new Layertreaty().share(0, 0, 0));
    }

    static void shareReinsurer() {
        range("share: the reinsurers 0 to 4", 0, 4, INDEX, v -> withTreaties().share(0, v, 0));
    }

    static void shareShare() {
        range("share: the share, 0 to 100", 0, 100, ARGUMENT, v -> withTreaties().share(0, 0, v));
        Layertreaty x = withTreaties();
        IS.due(0, x.share(0, 4, 100));
        IS.due(100, x.share(0, 4, 1));
        IS.due(1, x.share(0, 4, 0));
        IS.due(0, x.share(0, 4, 0));
    }

    static void shareTogether() {
        IS.at("share: together at most 100");
        Layertreaty y = withTreaties();
        y.share(0, 0, 10);
        y.share(0, 1, 20);
        y.share(0, 3, 30);
        IS.dueThrow(UNSUPPORTED, () -> y.share(0, 4, 41));
        IS.dueThrow(UNSUPPORTED, () -> y.share(0, 4, 100));
        IS.due(0, y.share(0, 4, 40));
        IS.dueThrow(UNSUPPORTED, () -> y.share(0, 2, 1));
        IS.due(0, y.share(0, 2, 0));
        IS.at("share: the one in place of which it comes is no part of them");
        IS.dueThrow(UNSUPPORTED, () -> y.share(0, 4, 41));
        IS.due(40, y.share(0, 4, 40));
        IS.due(40, y.share(0, 4, 39));
        IS.due(0, y.share(0, 2, 1));
        IS.at("share: one of 100 leaves nothing to others, and may stand anew");
        IS.due(0, y.share(1, 2, 100));
        IS.due(100, y.share(1, 2, 100));
        for (int reinsurer : new int[] {0, 1, 3, 4}) {
            IS.dueThrow(UNSUPPORTED, () -> y.share(1, reinsurer, 1));
            IS.due(0, y.share(1, reinsurer, 0));
        }
        IS.at("share: each treaty by itself");
        Layertreaty x = withTreaties();
        for (int treaty = 0; treaty < 5; treaty++) {
            IS.due(0, x.share(treaty, 0, 60));
            IS.due(0, x.share(treaty, 1, 40));
        }
    }

    static void failReinsurer() {
        range("fail: the reinsurers 0 to 4", 0, 4, INDEX, v -> new Layertreaty().fail(v, true));
        range("fail: the reinsurers 0 to 4, to pay again", 0, 4, INDEX, v -> new Layertreaty().fail(v, false));
    }

    static void handOnReinsurers() {
        range("handOn: from the reinsurers 0 to 4", 0, 4, INDEX, v -> new Layertreaty().handOn(v, v == 2 ? 1 : 2, 0, 1));
        range("handOn: to the reinsurers 0 to 4", 0, 4, INDEX, v -> new Layertreaty().handOn(v == 2 ? 1 : 2, v, 0, 1));
    }

    static void handOnBoth() {
        IS.at("handOn: both are the same");
        for (int from = 0; from < 5; from++) {
            for (int to = 0; to < 5; to++) {
                int one = from;
                int other = to;
                if (from == to) {
                    IS.dueThrow(ARGUMENT, () -> new Layertreaty().handOn(one, other, 0, 1));
                    IS.dueThrow(ARGUMENT, () -> new Layertreaty().handOn(one, other, 0, 0));
                } else {
                    IS.due(false, new Layertreaty().handOn(one, other, 0, 1));
                }
            }
        }
    }

    static void handOnBound() {
        range("handOn: the bound, 0 to 1000000", 0, 1000000, ARGUMENT, v -> new Layertreaty().handOn(0, 1, v, 1));
        range("handOn: the bound, with none", 0, 1000000, ARGUMENT, v -> new Layertreaty().handOn(0, 1, v, 0));
    }

    static void handOnLimit() {
        range("handOn: the limit, 0 to 1000000", 0, 1000000, ARGUMENT, v -> new Layertreaty().handOn(0, 1, 0, v));
    }

    static void handOnNone() {
        IS.at("handOn: 0 for none");
        Layertreaty x = Markets.single(1000, 100);
        x.treaty('q', 'o', 0, 999, 100, 0);
        x.share(0, 0, 100);
        IS.due(false, x.handOn(0, 1, 0, 0));
        IS.due(false, x.handOn(0, 1, 0, 1));
        IS.due(1, x.comes(1));
        IS.due(true, x.handOn(0, 1, 0, 0));
        IS.due(0, x.comes(1));
        IS.due(100, x.stays(0));
        IS.due(false, x.handOn(0, 2, 1000000, 1000000));
        IS.due(true, x.handOn(0, 2, 0, 1));
        IS.due(true, x.handOn(0, 2, 1000000, 0));
        IS.due(false, x.handOn(0, 2, 1000000, 0));
        IS.due(100, x.stays(0));
    }

    static void commuteTreaty() {
        range("commute: no such treaty", 0, 4, INDEX, v -> withTreaties().commute(v, 0));
        IS.dueThrow(INDEX, () -> new Layertreaty().commute(0, 0));
    }

    static void commutePrice() {
        range("commute: the price, 0 to 1000000", 0, 1000000, ARGUMENT, v -> withTreaties().commute(0, v));
        for (int price : new int[] {0, 1, 1000000}) {
            Layertreaty x = withTreaties();
            long left = x.left(0) + x.left(1);
            x.commute(4, price);
            IS.due(true, x.left(0) + x.left(1) >= left);
            Layertreaty y = Markets.single(1000, 100);
            y.treaty('q', 'o', 0, 999, 30, 0);
            IS.due(30, y.commute(0, price));
            IS.due(100 - 30 - price, y.net());
        }
    }

    // ---- promises 13 to 25 ----

    static void numbersOfLosses() {
        range("left: no such loss", 0, 1, INDEX, v -> withTreaties().left(v));
        range("takenFrom: no such loss", 0, 1, INDEX, v -> withTreaties().takenFrom(0, v));
        range("eventOf: no such loss", 0, 1, INDEX, v -> withTreaties().eventOf(3, v));
        IS.at("no losses");
        Layertreaty x = new Layertreaty();
        x.treaty('e', 'o', 0, 0, 0, 1);
        IS.dueThrow(INDEX, () -> x.left(0));
        IS.dueThrow(INDEX, () -> x.takenFrom(0, 0));
        IS.dueThrow(INDEX, () -> x.eventOf(0, 0));
    }

    static void numbersOfTreaties() {
        range("taken: no such treaty", 0, 4, INDEX, v -> withTreaties().taken(v));
        range("takenFrom: no such treaty", 0, 4, INDEX, v -> withTreaties().takenFrom(v, 0));
        range("limit: no such treaty", 0, 1, INDEX, v -> twoEventTreaties().limit(v));
        range("reinstated: no such treaty", 0, 4, INDEX, v -> withTreaties().reinstated(v));
        range("owed: no such treaty", 0, 4, INDEX, v -> withTreaties().owed(v));
        range("paid: no such treaty", 0, 4, INDEX, v -> withTreaties().paid(v, 0));
        range("events: no such treaty", 0, 1, INDEX, v -> twoEventTreaties().events(v, 0));
        range("eventOf: no such treaty", 0, 1, INDEX, v -> twoEventTreaties().eventOf(v, 0));
        range("isSame: no such treaty", 0, 1, INDEX, v -> twoEventTreaties().isSame(v));
        IS.at("no treaties");
        Layertreaty x = Markets.daily(1);
        IS.dueThrow(INDEX, () -> x.taken(0));
        IS.dueThrow(INDEX, () -> x.takenFrom(0, 0));
        IS.dueThrow(INDEX, () -> x.limit(0));
        IS.dueThrow(INDEX, () -> x.reinstated(0));
        IS.dueThrow(INDEX, () -> x.owed(0));
        IS.dueThrow(INDEX, () -> x.paid(0, 0));
        IS.dueThrow(INDEX, () -> x.events(0, 0));
        IS.dueThrow(INDEX, () -> x.eventOf(0, 0));
        IS.dueThrow(INDEX, () -> x.isSame(0));
    }

    private static Layertreaty twoEventTreaties() {
        Layertreaty x = Markets.daily(100);
        x.treaty('e', 'o', 0, 999, 10, 20);
        x.treaty('e', 'o', 0, 999, 10, 20);
        return x;
    }

    static void numbersOfReinsurers() {
        range("paid: the reinsurers 0 to 4", 0, 4, INDEX, v -> withTreaties().paid(0, v));
        range("lost: the reinsurers 0 to 4", 0, 4, INDEX, v -> withTreaties().lost(v));
        range("comes: the reinsurers 0 to 4", 0, 4, INDEX, v -> withTreaties().comes(v));
        range("stays: the reinsurers 0 to 4", 0, 4, INDEX, v -> withTreaties().stays(v));
    }

    static void eventsZone() {
        range("events: no such zone", 0, 3, ARGUMENT, v -> withTreaties().events(3, v));
    }

    static void onlyEHasEvents() {
        IS.at("events, eventOf, isSame: if it is not e");
        for (int k = 0; k < KINDS.length(); k++) {
            int treaty = k;
            if (k == 3) {
                IS.dueNoThrow(() -> withTreaties().events(treaty, 0));
                IS.dueNoThrow(() -> withTreaties().eventOf(treaty, 0));
                IS.due(true, withTreaties().isSame(treaty));
            } else {
                IS.dueThrow(UNSUPPORTED, () -> withTreaties().events(treaty, 0));
                IS.dueThrow(UNSUPPORTED, () -> withTreaties().eventOf(treaty, 0));
                IS.dueThrow(UNSUPPORTED, () -> withTreaties().isSame(treaty));
            }
        }
    }

    static void onlyRAndEHaveALimit() {
        IS.at("limit: if it has a limit without end");
        for (int k = 0; k < KINDS.length(); k++) {
            int treaty = k;
            if (k == 2 || k == 3) {
                IS.dueNoThrow(() -> withTreaties().limit(treaty));
            } else {
                IS.dueThrow(UNSUPPORTED, () -> withTreaties().limit(treaty));
            }
        }
    }

    // ---- promises 27 to 30 ----

    static void scenarioDay() {
        range("scenario: the day, from 0 to 999", 0, 999, ARGUMENT, v -> new Layertreaty().scenario(v, 1));
    }

    static void scenarioWeight() {
        range("scenario: weights from 1 to 9", 1, 9, ARGUMENT, v -> new Layertreaty().scenario(0, v));
        // The least and the greatest weight count in the mean.
        Layertreaty x = Markets.market(100);
        x.scenario(0, 1);
        x.scenario(0, 9);
        x.damage(0, 0, 100);
        IS.due(100.0 / 10.0, x.meanNet());
        x.damage(1, 0, 10);
        IS.due(190.0 / 10.0, x.meanNet());
    }

    private static Layertreaty withScenarios() {
        Layertreaty x = Markets.market(100);
        x.scenario(0, 1);
        x.scenario(999, 9);
        return x;
    }

    static void damageScenario() {
        range("damage: no such scenario", 0, 1, INDEX, v -> withScenarios().damage(v, 0, 0));
        IS.dueThrow(INDEX, () -> Markets.market(1).damage(0, 0, 0));
    }

    static void damageZone() {
        range("damage: the zone, from 0 to 3", 0, 3, ARGUMENT, v -> withScenarios().damage(0, v, 0));
    }

    static void damageHundredths() {
        range("damage: 0 to 100", 0, 100, ARGUMENT, v -> withScenarios().damage(0, 0, v));
        Layertreaty x = withScenarios();
        for (int zone = 0; zone < 4; zone++) {
            IS.due(0, x.damage(1, zone, 100));
            IS.due(100, x.damage(1, zone, 1));
            IS.due(zone + 1, x.scenarioNet(1));
        }
        IS.due(0, x.scenarioNet(0));
        IS.due(1, x.damage(1, 3, 0));
        IS.due(3, x.scenarioNet(1));
        IS.due(0, x.damage(1, 3, 0));
    }

    static void scenarioNetScenario() {
        range("scenarioNet: no such scenario", 0, 1, INDEX, v -> withScenarios().scenarioNet(v));
        IS.dueThrow(INDEX, () -> Markets.market(1).scenarioNet(0));
    }

    static void tailHundredths() {
        range("tail: the hundredths, 0 to 99", 0, 99, ARGUMENT, v -> withScenarios().tail(v));
        IS.dueThrow(NoSuchElementException.class, () -> Markets.market(1).tail(0));
        IS.dueThrow(NoSuchElementException.class, () -> Markets.market(1).tail(99));
    }
}
