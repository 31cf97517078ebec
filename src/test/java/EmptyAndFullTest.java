import java.util.NoSuchElementException;

/** Nothing there yet, all places taken, and as many calls as an object is used for. */
final class EmptyAndFullTest {
    private static final Class<IndexOutOfBoundsException> INDEX = IndexOutOfBoundsException.class;
    private static final Class<IllegalArgumentException> ARGUMENT = IllegalArgumentException.class;
    private static final Class<IllegalStateException> STATE = IllegalStateException.class;
    private static final Checks IS = new Checks();

    public static void main(String[] args) {
        IS.runAll(EmptyAndFullTest.class);
    }

    // ---- nothing there yet ----

    static void newNumbers() {
        IS.at("a market without policies, losses and treaties");
        Layertreaty x = new Layertreaty();
        IS.due(0, x.losses());
        IS.due(0, x.treaties());
        IS.due(0, x.allLosses());
        IS.due(0, x.net());
        IS.due(true, x.isSound());
    }

    static void newReinsurers() {
        IS.at("reinsurers of a new market");
        for (int reinsurer = 0; reinsurer < 5; reinsurer++) {
            Layertreaty x = new Layertreaty();
            IS.due(0, x.comes(reinsurer));
            IS.due(0, x.stays(reinsurer));
            IS.due(0, x.lost(reinsurer));
            IS.due(false, x.handOn(reinsurer, (reinsurer + 1) % 5, 0, 1000000));
            IS.due(0, x.comes(reinsurer));
            IS.due(0, x.comes((reinsurer + 1) % 5));
            IS.due(false, x.fail(reinsurer, true));
            IS.due(0, x.lost(reinsurer));
            IS.due(true, x.isSound());
        }
    }

    static void newRefusals() {
        IS.at("what a new market can't tell");
        Layertreaty x = new Layertreaty();
        IS.dueThrow(INDEX, () -> x.loss(0, 0, 0, 0));
        IS.dueThrow(INDEX, () -> x.setAmount(0, 0));
        IS.dueThrow(INDEX, () -> x.left(0));
        IS.dueThrow(INDEX, () -> x.taken(0));
        IS.dueThrow(INDEX, () -> x.scenarioNet(0));
        IS.dueThrow(NoSuchElementException.class, () -> x.tail(0));
        IS.dueThrow(ArithmeticException.class, () -> x.leftShare());
        IS.dueThrow(ArithmeticException.class, () -> x.meanNet());
    }

    static void firstNumbers() {
        IS.at("numbered from 0");
        Layertreaty x = new Layertreaty();
        IS.due(0, x.treaty('e', 'o', 0, 0, 0, 1));
        IS.due(0, x.scenario(0, 1));
        IS.due(0, x.policy(1, 0, 0, 0));
        IS.due(0, x.loss(0, 0, 0, 0));
        IS.due(1, x.losses());
        IS.due(1, x.treaties());
    }

    static void treatiesWithoutLosses() {
        IS.at("treaties without losses");
        Layertreaty x = new Layertreaty();
        String kinds = "qsrea";
        for (int i = 0; i < 5; i++) {
            x.treaty(kinds.charAt(i), 'o', 0, 999, 1, 7);
            x.share(i, i, 100);
            IS.due(0, x.taken(i));
            IS.due(0, x.reinstated(i));
            IS.due(0, x.owed(i));
            IS.due(0, x.paid(i, i));
        }
        IS.due(7, x.limit(2));
        IS.due(7, x.limit(3));
        for (int zone = 0; zone < 4; zone++) {
            IS.due(0, x.events(3, zone));
        }
        IS.due(true, x.isSame(3));
        IS.due(0, x.net());
        IS.due(0, x.commute(3, 0));
        IS.due(0, x.commute(4, 5));
        IS.due(-5, x.net());
        IS.due(true, x.isSound());
    }

    static void lossesWithoutTreaties() {
        IS.at("losses without treaties");
        Layertreaty x = Markets.daily(3, 0, 1000000);
        IS.due(3, x.left(0));
        IS.due(0, x.left(1));
        IS.due(1000000, x.left(2));
        IS.due(1000003, x.allLosses());
        IS.due(1000003, x.net());
        IS.due(1.0f, x.leftShare());
        IS.due(true, x.isSound());
    }

    static void scenariosWithoutPolicies() {
        IS.at("scenarios without policies");
        Layertreaty x = new Layertreaty();
        x.scenario(0, 9);
        x.damage(0, 0, 100);
        IS.due(0, x.scenarioNet(0));
        IS.due(0, x.tail(0));
        IS.due(0.0, x.meanNet());
    }

    // ---- all places taken ----

    static void twelvePolicies() {
        IS.at("at most 12 policies");
        Layertreaty x = new Layertreaty();
        for (int i = 0; i < 12; i++) {
            IS.due(i, x.policy(100 + i, i % 4, 0, 999));
        }
        IS.dueThrow(STATE, () -> x.policy(1, 0, 0, 0));
        IS.dueThrow(ARGUMENT, () -> x.policy(0, 0, 0, 0));
        IS.dueThrow(STATE, () -> x.policy(1000000, 3, 0, 999));
        // The last one is as good as the others: it has losses and damage.
        IS.due(0, x.loss(11, 5, 5, 9));
        IS.dueThrow(INDEX, () -> x.loss(12, 5, 5, 9));
        x.scenario(5, 1);
        x.damage(0, 3, 100);
        IS.due(103 + 107 + 111, x.scenarioNet(0));
        for (int zone = 0; zone < 3; zone++) {
            x.damage(0, zone, 100);
        }
        IS.due(12 * 100 + 66, x.scenarioNet(0));
    }

    static void thirtyLosses() {
        IS.at("at most 30 losses");
        Layertreaty x = Markets.market(1000);
        x.treaty('r', 'o', 0, 999, 0, 1000000);
        x.reinstate(0, 5, 0, false);
        for (int i = 0; i < 30; i++) {
            IS.due(i, x.losses());
            IS.due(i, x.loss(i % 4, 999 - i, 999, i + 1));
        }
        IS.dueThrow(STATE, () -> x.loss(0, 0, 0, 0));
        IS.dueThrow(STATE, () -> x.loss(3, 999, 999, 1000000));
        IS.due(30, x.losses());
        IS.due(465, x.allLosses());
        IS.due(465, x.taken(0));
        IS.due(30, x.takenFrom(0, 29));
        IS.dueThrow(INDEX, () -> x.left(30));
        IS.due(30, x.setAmount(29, 1000000));
        IS.due(1000000, x.takenFrom(0, 29));
    }

    static void eightTreaties() {
        IS.at("at most 8 treaties");
        for (char kind : new char[] {'q', 's', 'r', 'e', 'a'}) {
            Layertreaty x = Markets.single(1000, 900);
            for (int i = 0; i < 8; i++) {
                IS.due(i, x.treaties());
                IS.due(i, x.treaty(kind, 'o', 0, 999, 10, 10));
            }
            IS.dueThrow(STATE, () -> x.treaty(kind, 'o', 0, 999, 10, 10));
            IS.dueThrow(STATE, () -> x.treaty('q', 'a', 5, 6, 0, 0));
            IS.due(8, x.treaties());
            // The last one takes of what the seven ahead have left.
            long left = 900;
            for (int i = 0; i < 8; i++) {
                long due = kind == 'q' ? left / 10 : kind == 's' ? left / 10 : 10;
                IS.due(due, x.takenFrom(i, 0));
                IS.due(due, x.taken(i));
                left -= due;
            }
            IS.due(left, x.left(0));
            IS.due(0, x.share(7, 4, 100));
            IS.due(x.taken(7), x.paid(7, 4));
            IS.due(true, x.isSound());
            IS.dueThrow(INDEX, () -> x.taken(8));
            if (kind == 'e') {
                IS.due(1, x.events(7, 0));
                IS.due(0, x.eventOf(7, 0));
                IS.due(true, x.isSame(7));
                IS.due(0, x.limit(7));
            }
            long last = x.taken(7);
            IS.due(last, x.commute(7, 1));
            IS.due(last, x.taken(7));
            IS.due(0, x.takenFrom(7, 0));
            // A place is not free again by a commutation.
            IS.dueThrow(STATE, () -> x.treaty(kind, 'o', 0, 999, 10, 10));
        }
    }

    static void twelveScenarios() {
        IS.at("at most 12 scenarios");
        Layertreaty x = Markets.market(1000);
        for (int i = 0; i < 12; i++) {
            IS.due(i, x.scenario(i, 1));
        }
        IS.dueThrow(STATE, () -> x.scenario(0, 1));
        IS.dueThrow(STATE, () -> x.scenario(999, 9));
        IS.dueThrow(INDEX, () -> x.damage(12, 0, 1));
        IS.dueThrow(INDEX, () -> x.scenarioNet(12));
        // The last one counts in tail and mean.
        IS.due(0, x.damage(11, 3, 60));
        IS.due(600, x.scenarioNet(11));
        IS.due(600, x.tail(0));
        IS.due(600.0 / 12.0, x.meanNet());
    }

    static void greatestSums() {
        IS.at("all of everything, as great as it may be");
        Layertreaty x = new Layertreaty();
        for (int i = 0; i < 12; i++) {
            x.policy(1000000, i % 4, 0, 999);
        }
        for (int i = 0; i < 30; i++) {
            x.loss(i % 12, 0, 999, 1000000);
        }
        IS.due(30000000, x.allLosses());
        IS.due(30000000, x.net());
        IS.due(1.0f, x.leftShare());
        // By time, 1000 days on a treaty of one day: 5 times 2000000000.
        x.treaty('r', 'c', 999, 999, 0, 1000000);
        x.setPremium(0, 1000000);
        x.reinstate(0, 5, 200, true);
        IS.due(6000000, x.taken(0));
        IS.due(5000000, x.reinstated(0));
        IS.due(10000000000L, x.owed(0));
        IS.due(24000000L + 6000000L + 10000000000L, x.net());
        IS.due(30000000L - 6000000L - 1000000L + 10000000000L, netOfCommuted(x));
        for (int i = 0; i < 12; i++) {
            x.scenario(0, 9);
            for (int zone = 0; zone < 4; zone++) {
                x.damage(i, zone, 100);
            }
        }
        IS.due(12000000, x.tail(0));
        IS.due(12000000.0, x.meanNet());
    }

    private static long netOfCommuted(Layertreaty x) {
        // The losses keep 30000000; 6000000 and the price were paid.
        x.commute(0, 1000000);
        return x.net();
    }

    static void greatestRing() {
        IS.at("all that may come round in a ring");
        Layertreaty x = Markets.market(1000);
        for (int i = 0; i < 30; i++) {
            x.loss(0, 0, 0, 1000000);
        }
        x.treaty('q', 'o', 0, 999, 100, 0);
        for (int i = 0; i < 5; i++) {
            x.share(0, i, 20);
            x.handOn(i, (i + 1) % 5, 0, 1000000);
        }
        for (int i = 0; i < 5; i++) {
            IS.due(7000000, x.comes(i));
            IS.due(6000000, x.stays(i));
        }
        for (int i = 1; i < 5; i++) {
            x.handOn(i, 0, 0, 1000000);
        }
        x.share(0, 1, 0);
        x.share(0, 0, 40);
        IS.due(12000000 + 4000000, x.comes(0));
        IS.due(1000000, x.comes(1));
        IS.due(true, x.isSound());
    }

    // ---- as many calls as there may be ----

    static void fiveHundredAndTwelveCalls() {
        IS.at("an object is used for at most 512 calls");
        Layertreaty x = Markets.single(1000, 100);
        x.treaty('q', 'o', 0, 999, 10, 0);
        for (int i = 4; i <= 510; i++) {
            IS.due(i == 4 ? 100 : i - 1, x.setAmount(0, i));
        }
        IS.due(51, x.taken(0));
        IS.due(510 - 51, x.left(0));
    }

    static void refusedCallsAreCallsToo() {
        IS.at("the 512th call behind refused ones");
        Layertreaty x = new Layertreaty();
        for (int i = 1; i <= 511; i++) {
            IS.dueThrow(ARGUMENT, () -> x.policy(0, 0, 0, 0));
        }
        IS.due(0, x.policy(1, 0, 0, 0));
    }

    static void dearestCalls() {
        IS.at("the dearest calls of a full market, all of the rest");
        Layertreaty x = Markets.full();
        boolean same = true;
        long net = x.net();
        for (int i = 0; i < 120; i++) {
            same &= x.isSame(3) && x.isSame(5);
            IS.due(net, x.net());
        }
        IS.due(true, same);
    }
}
