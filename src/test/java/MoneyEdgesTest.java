/** The edges that the document names of premiums, reinsurers, commutation, and what the cedent bears. */
final class MoneyEdgesTest {
    private static final Class<IllegalStateException> STATE = IllegalStateException.class;
    private static final Class<UnsupportedOperationException> UNSUPPORTED = UnsupportedOperationException.class;
    private static final Checks IS = new Checks();

    public static void main(String[] args) {
        IS.runAll(MoneyEdgesTest.class);
    }

    // ---- premiums ----

    /** Losses of these amounts, and an r from 0 of 100 with reinstatements. */
    private static Layertreaty risk(int many, int price, int premium, int... amounts) {
        Layertreaty x = Markets.daily(amounts);
        x.treaty('r', 'o', 0, 999, 0, 100);
        x.reinstate(0, many, price, false);
        x.setPremium(0, premium);
        return x;
    }

    static void nothingIsReinstatedWithoutReinstatements() {
        IS.at("as much as b times the number of reinstatements: 0");
        Layertreaty x = risk(0, 200, 1000000, 100);
        IS.due(100, x.taken(0));
        IS.due(0, x.reinstated(0));
        IS.due(0, x.owed(0));
    }

    static void asMuchAsIsLeftOfReinstatements() {
        IS.at("of that as much as b times the number of reinstatements has left, less what was reinstated ahead");
        for (char kind : new char[] {'r', 'e'}) {
            for (int second = 0; second <= 3; second++) {
                Layertreaty x = Markets.onDays(0, 10, 20);
                x.setAmount(0, 99);
                x.setAmount(1, second);
                x.treaty(kind, 'o', 0, 999, 0, 100);
                x.reinstate(0, 1, 100, false);
                x.setPremium(0, 100);
                IS.due(99 + second, x.taken(0));
                IS.due(99 + Math.min(1, second), x.reinstated(0));
                IS.due(99 + Math.min(1, second), x.owed(0));
                IS.due(200 - 99 - second, x.limit(0));
            }
        }
        Layertreaty y = risk(2, 100, 100, 100, 100, 100);
        IS.due(200, y.reinstated(0));
        IS.due(300, y.taken(0));
        IS.due(200, y.owed(0));
        y.reinstate(0, 5, 100, false);
        IS.due(300, y.reinstated(0));
        IS.due(300, y.limit(0));
    }

    static void treatiesReinstateByThemselves() {
        IS.at("less what was reinstated by this treaty ahead");
        Layertreaty x = Markets.daily(100, 100);
        x.treaty('r', 'o', 0, 999, 50, 30);
        x.treaty('r', 'o', 0, 999, 0, 40);
        x.reinstate(0, 1, 100, false);
        x.reinstate(1, 2, 100, false);
        IS.due(30, x.reinstated(0));
        IS.due(80, x.reinstated(1));
    }

    static void costRoundedDown() {
        IS.at("costs the premium times this times the price, divided by b times 100, rounded down");
        IS.due(0, risk(1, 1, 99, 100).owed(0));
        IS.due(1, risk(1, 1, 100, 100).owed(0));
        IS.due(1, risk(1, 1, 199, 100).owed(0));
        IS.due(0, risk(1, 99, 1, 100).owed(0));
        IS.due(1, risk(1, 100, 1, 100).owed(0));
        IS.due(1, risk(1, 199, 1, 100).owed(0));
        IS.due(2, risk(1, 200, 1, 100).owed(0));
        IS.due(0, risk(1, 100, 1, 99).owed(0));
        IS.due(0, risk(1, 0, 1000000, 100).owed(0));
        IS.due(0, risk(1, 200, 0, 100).owed(0));
        IS.due(2000000, risk(1, 200, 1000000, 100).owed(0));
    }

    static void costFollowsWhatIsSetAnew() {
        IS.at("the premium, the price and whether it is by time, set anew behind a question");
        Layertreaty x = Markets.onDays(100, 19);
        x.treaty('r', 'o', 0, 19, 0, 100);
        x.reinstate(0, 1, 100, false);
        IS.due(0, x.owed(0));
        x.setPremium(0, 1000);
        IS.due(1000, x.owed(0));
        x.setPremium(0, 500);
        IS.due(500, x.owed(0));
        x.reinstate(0, 1, 200, false);
        IS.due(1000, x.owed(0));
        x.reinstate(0, 1, 200, true);
        IS.due(50, x.owed(0));
        x.reinstate(0, 0, 200, true);
        IS.due(0, x.owed(0));
    }

    static void eachTimeByItself() {
        IS.at("each time that it takes something this is rounded down");
        // 0.5 twice is nothing, not 1.
        IS.due(0, risk(1, 100, 1, 50, 50).owed(0));
        IS.due(1, risk(1, 100, 1, 100, 50).owed(0));
        IS.due(100, risk(1, 100, 1, 50, 50).reinstated(0));
        // An event of two losses is one time.
        Layertreaty x = Markets.daily(50, 50);
        x.treaty('e', 'o', 0, 999, 0, 100);
        x.reinstate(0, 1, 100, false);
        x.setPremium(0, 1);
        IS.due(1, x.owed(0));
        // Two events are two times, those of two zones, too.
        x.setDays(0, 1);
        IS.due(1, x.events(0, 0) - 1);
        IS.due(0, x.owed(0));
        Layertreaty y = Markets.market(1000);
        y.loss(0, 5, 5, 50);
        y.loss(1, 5, 5, 50);
        y.treaty('e', 'o', 0, 999, 0, 100);
        y.reinstate(0, 1, 100, false);
        y.setPremium(0, 1);
        IS.due(0, y.owed(0));
        IS.due(100, y.reinstated(0));
    }

    /** What the reinstatement of 100 by a loss on this day costs by a treaty from day 10 to 19, told on day 15. */
    private static long owedOn(int day, char basis) {
        Layertreaty x = new Layertreaty();
        x.policy(1000, 0, basis == 'a' ? 10 : 0, 999);
        x.loss(0, day, Math.max(day, 15), 100);
        x.treaty('r', basis, 10, 19, 0, 100);
        x.reinstate(0, 1, 100, true);
        x.setPremium(0, 1000);
        IS.due(100, x.reinstated(0));
        return x.owed(0);
    }

    static void byTimeBothIncluded() {
        IS.at("the number of days from the day of the loss to the treaty's last day, both included");
        IS.due(1000, owedOn(10, 'o'));
        IS.due(900, owedOn(11, 'o'));
        IS.due(200, owedOn(18, 'o'));
        IS.due(100, owedOn(19, 'o'));
    }

    static void byTimeAtLeastNothing() {
        IS.at("at least 0");
        IS.due(100, owedOn(19, 'a'));
        IS.due(0, owedOn(20, 'a'));
        IS.due(0, owedOn(21, 'a'));
        IS.due(0, owedOn(22, 'a'));
        IS.due(0, owedOn(999, 'a'));
    }

    static void byTimeOfLossesAheadOfTheTreaty() {
        IS.at("from the day of the loss, also if this is ahead of the treaty's first day");
        IS.due(1000, owedOn(10, 'c'));
        IS.due(1100, owedOn(9, 'c'));
        IS.due(2000, owedOn(0, 'c'));
    }

    static void byTimeOfATreatyOfOneDay() {
        IS.at("divided by the number of days of the treaty: 1");
        Layertreaty x = Markets.single(1000, 100);
        x.treaty('r', 'o', 5, 5, 0, 100);
        x.reinstate(0, 1, 100, true);
        x.setPremium(0, 1000);
        IS.due(1000, x.owed(0));
        Layertreaty y = Markets.single(1000, 100);
        y.treaty('r', 'o', 0, 999, 0, 100);
        y.reinstate(0, 1, 100, true);
        y.setPremium(0, 1000);
        // 995 days of 1000.
        IS.due(995, y.owed(0));
    }

    static void byTimeRoundedDownToo() {
        IS.at("rounded down, too");
        Layertreaty x = Markets.onDays(100, 13);
        x.treaty('r', 'o', 10, 19, 0, 100);
        x.setPremium(0, 15);
        // 7.5 is 7, and 7 days of 10 are 4.9; of 7.5 it would be 5.25.
        x.reinstate(0, 1, 50, false);
        IS.due(7, x.owed(0));
        x.reinstate(0, 1, 50, true);
        IS.due(4, x.owed(0));
        x.setPremium(0, 1);
        x.reinstate(0, 1, 100, true);
        IS.due(0, x.owed(0));
        x.reinstate(0, 1, 100, false);
        IS.due(1, x.owed(0));
    }

    static void byTimeFromTheFirstDayOfTheEvent() {
        IS.at("or the first day of the event");
        Layertreaty x = Markets.onDays(50, 17, 18, 19);
        x.treaty('e', 'o', 10, 19, 50, 100);
        x.reinstate(0, 1, 100, true);
        x.setPremium(0, 1000);
        IS.due(1, x.events(0, 0));
        IS.due(300, x.owed(0));
        // A day of which nothing is left is none of the event.
        x.setAmount(0, 0);
        x.setAmount(2, 100);
        IS.due(200, x.owed(0));
        // An event behind the treaty's last day, covered by the day on which it was told.
        Layertreaty y = Markets.market(1000);
        y.loss(0, 0, 15, 60);
        y.loss(0, 2, 15, 60);
        y.treaty('e', 'c', 10, 19, 20, 100);
        y.reinstate(0, 1, 100, true);
        y.setPremium(0, 1000);
        IS.due(2000, y.owed(0));
    }

    static void costsAreTheCedents() {
        IS.at("prices of reinstatements are what the cedent bears");
        Layertreaty x = risk(1, 100, 7, 100);
        IS.due(7 + 100, x.net());
        x.share(0, 0, 100);
        IS.due(7, x.net());
        x.reinstate(0, 0, 100, false);
        IS.due(0, x.net());
    }

    // ---- reinsurers ----

    /** A treaty that takes all of one loss, of which reinsurer 0 has this share. */
    private static Layertreaty shared(int amount, int share) {
        Layertreaty x = Markets.single(1000, amount);
        x.treaty('q', 'o', 0, 999, 100, 0);
        x.share(0, 0, share);
        return x;
    }

    static void paysHundredthsRoundedDown() {
        IS.at("a reinsurer with a share pays its hundredths, rounded down");
        int[][] due = {{99, 1, 0}, {100, 1, 1}, {199, 1, 1}, {1, 99, 0}, {1, 100, 1}, {1000000, 100, 1000000},
            {999999, 99, 989999}, {100, 0, 0}, {0, 100, 0}};
        for (int[] row : due) {
            Layertreaty x = shared(row[0], row[1]);
            IS.due(row[2], x.paid(0, 0));
            IS.due(row[2], x.comes(0));
            // The rest stays with the cedent.
            IS.due(row[0] - row[2], x.net());
            x.fail(0, true);
            IS.due(row[2], x.lost(0));
            IS.due(row[0], x.net());
        }
    }

    static void ofEachAmountFromALoss() {
        IS.at("of each amount that a treaty takes from a loss");
        Layertreaty x = Markets.daily(99, 99, 1);
        x.treaty('q', 'o', 0, 999, 100, 0);
        x.treaty('a', 'o', 0, 999, 0, 1);
        x.share(0, 0, 50);
        x.share(0, 4, 50);
        IS.due(49 + 49, x.paid(0, 0));
        IS.due(49 + 49, x.paid(0, 4));
        IS.due(199 - 4 * 49, x.net());
        // Of two treaties each by itself: 49.5 and 24.75.
        Layertreaty y = Markets.daily(198);
        y.treaty('q', 'o', 0, 999, 50, 0);
        y.treaty('q', 'o', 0, 999, 50, 0);
        y.share(0, 0, 50);
        y.share(1, 0, 50);
        IS.due(49, y.paid(0, 0));
        IS.due(24, y.paid(1, 0));
        IS.due(73, y.comes(0));
        // Of an event, too, of each of its losses.
        Layertreaty z = Markets.onDays(99, 5, 5);
        z.treaty('e', 'o', 0, 999, 0, 198);
        z.share(0, 0, 50);
        IS.due(98, z.paid(0, 0));
    }

    static void allFiveReinsurers() {
        IS.at("there are the reinsurers 0 to 4");
        Layertreaty x = Markets.single(1000, 1000);
        x.treaty('q', 'o', 0, 999, 100, 0);
        for (int i = 0; i < 5; i++) {
            x.share(0, i, 10 + 5 * i);
        }
        for (int i = 0; i < 5; i++) {
            IS.due(100 + 50 * i, x.paid(0, i));
            IS.due(100 + 50 * i, x.comes(i));
            IS.due(100 + 50 * i, x.stays(i));
            IS.due(0, x.lost(i));
        }
        IS.due(0, x.net());
        for (int i = 0; i < 5; i++) {
            x.fail(i, true);
            IS.due(100 + 50 * i, x.lost(i));
            IS.due(0, x.paid(0, i));
            IS.due(0, x.comes(i));
            IS.due(0, x.stays(i));
            IS.due(100 + 50 * i, x.net());
            x.fail(i, false);
        }
        x.share(0, 4, 29);
        IS.due(10, x.net());
        x.share(0, 0, 0);
        IS.due(110, x.net());
    }

    static void failedPaysNothing() {
        IS.at("a reinsurer that failed pays nothing: its part is lost to the cedent");
        Layertreaty x = shared(1000, 60);
        x.share(0, 4, 40);
        IS.due(0, x.net());
        IS.due(false, x.fail(0, true));
        IS.due(true, x.fail(0, true));
        IS.due(600, x.lost(0));
        IS.due(0, x.lost(4));
        IS.due(600, x.net());
        IS.due(400, x.paid(0, 4));
        // Its share is still its own.
        IS.dueThrow(UNSUPPORTED, () -> x.share(0, 4, 41));
        x.setAmount(0, 100);
        IS.due(60, x.lost(0));
        IS.due(true, x.fail(0, false));
        IS.due(false, x.fail(0, false));
        IS.due(0, x.lost(0));
        IS.due(60, x.paid(0, 0));
        IS.due(0, x.net());
    }

    // ---- retrocession ----

    /** What comes to 1 if 100 come to 0, of which what is above a bound, at most a limit, is handed on. */
    private static void handsOn(long due, int bound, int limit) {
        Layertreaty x = shared(100, 100);
        x.handOn(0, 1, bound, limit);
        IS.due(due, x.comes(1));
        IS.due(100, x.comes(0));
        IS.due(100 - due, x.stays(0));
        IS.due(due, x.stays(1));
        IS.due(0, x.net());
        IS.due(true, x.isSound());
    }

    static void aboveABound() {
        IS.at("of all that comes to it, what is above a bound");
        handsOn(0, 101, 1000000);
        handsOn(0, 100, 1000000);
        handsOn(1, 99, 1000000);
        handsOn(99, 1, 1000000);
        handsOn(100, 0, 1000000);
        handsOn(0, 1000000, 1000000);
    }

    static void atMostALimit() {
        IS.at("but at most a limit");
        handsOn(1, 0, 1);
        handsOn(59, 40, 59);
        handsOn(60, 40, 60);
        handsOn(60, 40, 61);
        handsOn(0, 40, 0);
        handsOn(1, 99, 1);
    }

    static void atMostOneRetrocessionEach() {
        IS.at("by at most one retrocession each, in place of an earlier one of the same reinsurer");
        Layertreaty x = shared(100, 100);
        IS.due(false, x.handOn(0, 1, 0, 30));
        IS.due(true, x.handOn(0, 2, 50, 40));
        IS.due(0, x.comes(1));
        IS.due(40, x.comes(2));
        IS.due(60, x.stays(0));
        IS.due(true, x.handOn(0, 2, 50, 1000000));
        IS.due(50, x.comes(2));
        // Others' are others'.
        IS.due(false, x.handOn(1, 2, 0, 10));
        IS.due(false, x.handOn(2, 3, 20, 10));
        IS.due(10, x.comes(3));
        IS.due(true, x.handOn(1, 2, 0, 0));
        IS.due(10, x.comes(3));
    }

    static void severalToTheSame() {
        IS.at("which comes to the other one then: of several together");
        Layertreaty x = Markets.single(1000, 1000);
        x.treaty('q', 'o', 0, 999, 100, 0);
        for (int i = 0; i < 5; i++) {
            x.share(0, i, 20);
            if (i != 3) {
                x.handOn(i, 3, 100, 50 + i);
            }
        }
        IS.due(200 + 50 + 51 + 52 + 54, x.comes(3));
        IS.due(200 - 54, x.stays(4));
        IS.due(x.comes(3), x.stays(3));
    }

    static void alongAChain() {
        IS.at("of all that comes to it, also by retrocession");
        int[][] orders = {{0, 1, 2, 3, 4}, {4, 3, 2, 1, 0}, {2, 0, 4, 1, 3}};
        for (int[] order : orders) {
            Layertreaty x = Markets.single(1000, 1000);
            x.treaty('q', 'o', 0, 999, 100, 0);
            x.share(0, order[0], 100);
            for (int i = 0; i < 4; i++) {
                x.handOn(order[i], order[i + 1], 10, 1000000);
            }
            for (int i = 0; i < 5; i++) {
                IS.due(1000 - 10 * i, x.comes(order[i]));
                IS.due(i < 4 ? 10 : 960, x.stays(order[i]));
            }
            // One that failed hands nothing on, but what is handed on comes to it.
            x.fail(order[2], true);
            IS.due(980, x.comes(order[2]));
            IS.due(980, x.stays(order[2]));
            IS.due(0, x.comes(order[3]));
            IS.due(0, x.lost(order[2]));
            IS.due(0, x.net());
            x.fail(order[0], true);
            IS.due(0, x.comes(order[0]));
            IS.due(0, x.comes(order[1]));
            IS.due(1000, x.lost(order[0]));
            IS.due(1000, x.net());
        }
    }

    /** Two that hand on to one another: 10 and 5 come to them by a treaty. */
    private static void ring(long first, long second, int bound, int limit, int bound2, int limit2) {
        Layertreaty x = Markets.single(1000, 100);
        x.treaty('q', 'o', 0, 999, 100, 0);
        x.share(0, 3, 10);
        x.share(0, 1, 5);
        x.handOn(3, 1, bound, limit);
        x.handOn(1, 3, bound2, limit2);
        IS.due(first, x.comes(3));
        IS.due(second, x.comes(1));
        IS.due(true, x.isSound());
    }

    static void leastThatFits() {
        IS.at("what comes to reinsurers is the least that fits");
        // What goes round is less by 1 with each round, stays as it is, and grows until a limit stops it.
        ring(10, 7, 8, 1000000, 8, 1000000);
        ring(10, 7, 8, 1000000, 7, 1000000);
        ring(29, 25, 8, 20, 6, 1000000);
        ring(10, 5, 10, 1000000, 5, 1000000);
        ring(10 + 1000000, 5 + 1000000, 10, 1000000, 4, 1000000);
        ring(15, 5, 15, 1000000, 0, 1000000);
        ring(1000010, 5 + 1000010 - 14, 14, 1000000, 0, 1000000);
        ring(10, 15, 0, 1000000, 15, 1000000);
        ring(110, 105, 0, 100, 0, 100);
        ring(11, 6, 0, 1, 0, 1);
        ring(10 + 15, 15, 0, 10, 0, 1000000);
    }

    static void whatCameRoundIsForgotten() {
        IS.at("the least that fits, whatever came ahead");
        Layertreaty x = shared(100, 10);
        x.handOn(0, 1, 0, 1000);
        x.handOn(1, 0, 0, 1000);
        IS.due(10, x.stays(0));
        IS.due(1010, x.comes(0));
        IS.due(1000, x.comes(1));
        // With 1000 there it would go on: 1010 hand on 1000, and these 1000. But it begins with 10.
        x.handOn(1, 0, 10, 1000);
        IS.due(10, x.comes(0));
        IS.due(10, x.comes(1));
        x.handOn(1, 0, 9, 1000);
        IS.due(1010 - 9, x.comes(0));
        x.share(0, 0, 0);
        IS.due(0, x.comes(0));
        IS.due(0, x.comes(1));
    }

    static void staysAskedFirst() {
        IS.at("what stays, asked ahead of what comes");
        Layertreaty x = shared(100, 100);
        IS.due(100, x.stays(0));
        x.handOn(0, 1, 30, 50);
        IS.due(50, x.stays(0));
        x.setAmount(0, 60);
        IS.due(30, x.stays(1));
        x.fail(0, true);
        IS.due(0, x.stays(1));
    }

    static void nothingGoesRoundByItself() {
        IS.at("the least that fits: nothing comes where nothing comes from outside");
        Layertreaty x = new Layertreaty();
        for (int i = 0; i < 5; i++) {
            x.handOn(i, (i + 1) % 5, 0, 1000000);
        }
        for (int i = 0; i < 5; i++) {
            IS.due(0, x.comes(i));
            IS.due(0, x.stays(i));
        }
        IS.due(true, x.isSound());
        // As soon as 1 comes, it grows until the limits stop it.
        x.policy(1, 0, 0, 0);
        x.loss(0, 0, 0, 1);
        x.treaty('q', 'o', 0, 0, 100, 0);
        x.share(0, 2, 100);
        IS.due(1000001, x.comes(2));
        IS.due(1000000, x.comes(1));
        IS.due(1, x.stays(2));
        IS.due(true, x.isSound());
    }

    static void ringsOfEachLength() {
        IS.at("rings of two to five, and what hands on to them");
        for (int size = 2; size <= 5; size++) {
            for (int start = 0; start < 5; start++) {
                Layertreaty x = shared(100, 0);
                x.share(0, start, 100);
                for (int i = 0; i < 5; i++) {
                    int at = (start + i) % 5;
                    // The ones ahead of the ring hand on to its first one, the others in the ring.
                    boolean isLast = i == 4;
                    x.handOn(at, isLast ? (start + 5 - size) % 5 : (at + 1) % 5, isLast ? 3 : 0, isLast ? 50 : 1000000);
                }
                // 100 come to the ring, and 50 come round again.
                int ringFirst = (start + 5 - size) % 5;
                IS.due(150, x.comes(ringFirst));
                IS.due(150, x.comes((start + 4) % 5));
                IS.due(100, x.stays((start + 4) % 5));
                IS.due(size == 5 ? 150 : 100, x.comes(start));
                x.fail((start + 4) % 5, true);
                IS.due(100, x.comes((start + 4) % 5));
                IS.due(100, x.comes(ringFirst));
                IS.due(true, x.isSound());
            }
        }
    }

    static void failedInARing() {
        IS.at("what is handed on to them, failed or not; one that failed hands nothing on");
        Layertreaty x = Markets.single(1000, 100);
        x.treaty('q', 'o', 0, 999, 100, 0);
        x.share(0, 0, 60);
        x.share(0, 1, 40);
        x.handOn(0, 1, 0, 1000);
        x.handOn(1, 0, 0, 1000);
        IS.due(1060, x.comes(0));
        x.fail(1, true);
        // 40 are lost, and 60 come to the one that failed.
        IS.due(60, x.comes(0));
        IS.due(60, x.comes(1));
        IS.due(60, x.stays(1));
        IS.due(0, x.stays(0));
        IS.due(40, x.lost(1));
        IS.due(40, x.net());
        x.fail(0, true);
        IS.due(0, x.comes(0));
        IS.due(0, x.comes(1));
        IS.due(100, x.net());
        x.fail(0, false);
        x.fail(1, false);
        IS.due(1040, x.comes(1));
    }

    // ---- commutation ----

    static void commutedAtAPrice() {
        IS.at("to commute a treaty at a price ends it");
        for (int price : new int[] {0, 1, 1000000}) {
            Layertreaty x = shared(1000, 0);
            IS.due(1000, x.net());
            IS.due(1000, x.commute(0, price));
            IS.due(1000, x.taken(0));
            IS.due(0, x.takenFrom(0, 0));
            IS.due(1000, x.left(0));
            // The loss is the cedent's again; the sum and the price were paid to it.
            IS.due(1000 - 1000 - price, x.net());
            IS.dueThrow(UNSUPPORTED, () -> x.commute(0, 0));
        }
    }

    static void commutedWhereNothingWasTaken() {
        IS.at("what it takes then: nothing");
        for (char kind : new char[] {'q', 's', 'r', 'e', 'a'}) {
            Layertreaty x = new Layertreaty();
            x.policy(1000, 0, 0, 999);
            x.treaty(kind, 'o', 0, 999, 10, 10);
            IS.due(0, x.commute(0, 0));
            x.loss(0, 5, 5, 100);
            IS.due(0, x.taken(0));
            IS.due(100, x.left(0));
            IS.due(100, x.net());
            IS.due(true, x.isSound());
        }
    }

    static void allOfItWhoeverFailed() {
        IS.at("all of it, whoever failed and whatever shares there are");
        Layertreaty x = shared(1000, 30);
        x.share(0, 1, 50);
        x.fail(1, true);
        IS.due(500 + 200, x.net());
        IS.due(1000, x.commute(0, 7));
        IS.due(-7, x.net());
        IS.due(0, x.paid(0, 0));
        IS.due(0, x.lost(1));
        IS.due(0, x.comes(0));
        x.fail(0, true);
        x.fail(1, false);
        IS.due(-7, x.net());
        x.share(0, 0, 0);
        x.share(0, 4, 50);
        IS.due(0, x.paid(0, 4));
        IS.due(-7, x.net());
    }

    static void commutedStaysWhateverComes() {
        IS.at("stays as a sum that was paid; what it reinstated and what that costs stays, too");
        for (char kind : new char[] {'r', 'e'}) {
            Layertreaty x = Markets.onDays(100, 10, 20);
            x.treaty(kind, 'o', 0, 99, 0, 80);
            x.reinstate(0, 1, 100, false);
            x.setPremium(0, 800);
            IS.due(160, x.commute(0, 3));
            x.setAmount(0, 0);
            x.loss(0, 30, 30, 500);
            x.setPremium(0, 0);
            x.reinstate(0, 5, 200, true);
            x.setDays(0, 9);
            IS.due(160, x.taken(0));
            IS.due(80, x.reinstated(0));
            IS.due(800, x.owed(0));
            IS.due(0, x.takenFrom(0, 1));
            IS.due(600, x.allLosses());
            IS.due(600 + 800 - 160 - 3, x.net());
            IS.dueThrow(STATE, () -> x.limit(0));
            IS.due(true, x.isSound());
        }
    }

    static void commutedByAllLossesAsTheyAre() {
        IS.at("what it takes then, by all losses as they are");
        Layertreaty x = Markets.daily(100);
        x.treaty('r', 'o', 0, 999, 20, 1000);
        x.setAmount(0, 50);
        // Nothing was asked ahead.
        IS.due(30, x.commute(0, 0));
        x.setAmount(0, 100);
        IS.due(30, x.taken(0));
        Layertreaty y = Markets.daily(100);
        y.treaty('r', 'o', 0, 999, 20, 1000);
        IS.due(80, y.taken(0));
        y.loss(0, 2, 2, 21);
        IS.due(81, y.commute(0, 0));
    }

    static void othersTakeWhatItWouldTake() {
        IS.at("from then on it covers nothing, so that what it would take stays with the losses");
        Layertreaty x = Markets.daily(100);
        x.treaty('r', 'o', 0, 999, 0, 70);
        x.treaty('r', 'o', 0, 999, 0, 60);
        x.treaty('e', 'o', 0, 999, 0, 40);
        x.treaty('a', 'o', 0, 999, 0, 1000);
        IS.due(30, x.taken(1));
        IS.due(0, x.taken(3));
        x.commute(0, 0);
        IS.due(60, x.taken(1));
        IS.due(40, x.taken(2));
        x.commute(1, 0);
        IS.due(40, x.taken(2));
        IS.due(60, x.taken(3));
        x.commute(2, 0);
        IS.due(100, x.taken(3));
        x.commute(3, 0);
        IS.due(100, x.left(0));
        IS.due(100 - 70 - 60 - 40 - 100, x.net());
        IS.due(70, x.taken(0));
        IS.due(60, x.taken(1));
        IS.due(40, x.taken(2));
        IS.due(100, x.taken(3));
    }

    static void commutedTreatiesKeepTheirNumbers() {
        IS.at("a treaty that was commuted is still one of them");
        Layertreaty x = shared(100, 50);
        x.commute(0, 0);
        IS.due(1, x.treaties());
        IS.due(1, x.treaty('q', 'o', 0, 999, 100, 0));
        IS.due(100, x.taken(1));
        IS.due(50, x.share(0, 0, 0));
        IS.due(3, x.setDays(0, 4));
    }

    // ---- net ----

    static void netOfAllTogether() {
        IS.at("what is left, what no reinsurer pays, what is lost, prices, less sums and prices of commutations");
        Layertreaty x = Markets.daily(1000, 1000);
        x.treaty('q', 'o', 1, 1, 50, 0);
        x.treaty('r', 'o', 2, 2, 400, 500);
        x.treaty('q', 'o', 2, 2, 10, 0);
        x.share(0, 4, 40);
        x.share(0, 3, 20);
        x.fail(3, true);
        x.reinstate(1, 1, 50, false);
        x.setPremium(1, 60);
        // 500 and 450 are left; of 500 taken 200 are unshared, 100 lost; of 500 none is shared; 30 are owed.
        IS.due(50, x.commute(2, 9));
        IS.due(500 + 500 + 200 + 100 + 500 + 30 - 50 - 9, x.net());
        x.share(1, 4, 100);
        IS.due(500 + 500 + 300 + 30 - 59, x.net());
        x.share(0, 4, 41);
        IS.due(500 + 500 + 195 + 100 + 30 - 59, x.net());
    }

    static void netIsWhatWasLost() {
        IS.at("what all pay is what was lost");
        Layertreaty x = Markets.full();
        long all = x.allLosses();
        long owed = 0;
        for (int i = 0; i < 8; i++) {
            owed += x.owed(i);
        }
        long paid = 0;
        for (int i = 0; i < 8; i++) {
            for (int k = 0; k < 5; k++) {
                paid += x.paid(i, k);
            }
        }
        IS.due(all + owed - paid - x.taken(6) - 123, x.net());
        long comes = 0;
        long stays = 0;
        for (int k = 0; k < 5; k++) {
            comes += x.comes(k);
            stays += x.stays(k);
        }
        IS.due(paid, stays);
        IS.due(true, comes > stays);
    }
}
