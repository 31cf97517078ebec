/** The edges that the document names of scenarios, of their net, tail and mean. */
final class ScenarioEdgesTest {
    private static final Checks IS = new Checks();

    public static void main(String[] args) {
        IS.runAll(ScenarioEdgesTest.class);
    }

    /** A scenario with this damage in all zones. */
    private static int scenario(Layertreaty x, int day, int weight, int hundredths) {
        int scenario = x.scenario(day, weight);
        for (int zone = 0; zone < 4; zone++) {
            x.damage(scenario, zone, hundredths);
        }
        return scenario;
    }

    // ---- the losses of a scenario ----

    static void withoutDamage() {
        IS.at("adds a scenario without damage");
        Layertreaty x = Markets.market(1000000);
        x.scenario(5, 1);
        IS.due(0, x.scenarioNet(0));
        for (int zone = 0; zone < 4; zone++) {
            IS.due(0, x.damage(0, zone, 0));
        }
        IS.due(0, x.tail(0));
        IS.due(0.0, x.meanNet());
    }

    static void policiesInForceOnThatDay() {
        IS.at("those of all policies in force on that day");
        Layertreaty x = new Layertreaty();
        x.policy(1, 0, 100, 200);
        x.policy(10, 0, 0, 99);
        x.policy(100, 0, 201, 999);
        x.policy(1000, 0, 150, 150);
        int[] days = {0, 99, 100, 149, 150, 151, 200, 201, 999};
        int[] due = {10, 10, 1, 1, 1001, 1, 1, 100, 100};
        for (int i = 0; i < days.length; i++) {
            IS.due(due[i], x.scenarioNet(scenario(x, days[i], 1, 100)));
        }
    }

    static void sumTimesDamageRoundedDown() {
        IS.at("with the sum times the damage, rounded down, where this is not 0");
        int[][] due = {{99, 1, 0}, {100, 1, 1}, {199, 1, 1}, {1, 99, 0}, {1, 100, 1}, {1000000, 100, 1000000},
            {999999, 99, 989999}, {1000000, 1, 10000}, {1000000, 0, 0}, {3, 33, 0}, {3, 34, 1}};
        for (int[] row : due) {
            Layertreaty x = new Layertreaty();
            x.policy(row[0], 2, 0, 999);
            IS.due(row[2], x.scenarioNet(scenario(x, 500, 1, row[1])));
        }
        // Of each policy by itself.
        Layertreaty y = Markets.market(150);
        IS.due(4, y.scenarioNet(scenario(y, 0, 1, 1)));
    }

    static void eachZoneItsDamage() {
        IS.at("a damage in hundredths for each zone");
        Layertreaty x = Markets.market(100);
        x.scenario(0, 1);
        for (int zone = 0; zone < 4; zone++) {
            x.damage(0, zone, 10 + zone);
        }
        IS.due(46, x.scenarioNet(0));
        x.damage(0, 2, 0);
        IS.due(34, x.scenarioNet(0));
        IS.due(0, x.damage(0, 2, 100));
        IS.due(134, x.scenarioNet(0));
    }

    static void toldOnThisDay() {
        IS.at("told on this day");
        for (char basis : new char[] {'o', 'c', 'a'}) {
            for (int day = 49; day <= 51; day++) {
                Layertreaty x = new Layertreaty();
                x.policy(100, 0, basis == 'a' ? day : 0, 999);
                x.treaty('q', basis, 50, 50, 100, 0);
                IS.due(day == 50 ? 0 : 100, x.scenarioNet(scenario(x, basis == 'a' ? 500 : day, 1, 100)));
            }
        }
    }

    static void byRisingNumbersOfPolicies() {
        IS.at("by rising numbers of policies");
        Layertreaty x = new Layertreaty();
        x.policy(1000, 3, 0, 999);
        x.policy(500, 0, 0, 999);
        // The limit goes to policy 0; s, then, takes half of what is left of policy 1 alone.
        x.treaty('r', 'o', 0, 999, 0, 600);
        x.treaty('s', 'o', 0, 999, 250, 1);
        // 1000 less 600, less a fourth; 500, less a half.
        IS.due(300 + 250, x.scenarioNet(scenario(x, 5, 1, 100)));
    }

    static void throughTheTreatiesByThemselves() {
        IS.at("they go through the treaties by themselves");
        Layertreaty x = Markets.market(1000);
        x.loss(0, 5, 5, 1000);
        x.treaty('r', 'o', 0, 999, 0, 1000);
        x.treaty('e', 'o', 0, 999, 0, 100);
        IS.due(0, x.limit(0));
        long net = x.net();
        scenario(x, 5, 1, 50);
        scenario(x, 6, 1, 50);
        // Of 500 in each zone 1000 and 100 are taken, in each scenario anew, whatever was taken of the loss.
        IS.due(900, x.scenarioNet(0));
        IS.due(900, x.scenarioNet(1));
        IS.due(900, x.scenarioNet(0));
        IS.due(900, x.tail(0));
        IS.due(1000, x.taken(0));
        IS.due(0, x.limit(0));
        IS.due(net, x.net());
        IS.due(1, x.losses());
        IS.due(1000, x.allLosses());
        x.setAmount(0, 0);
        IS.due(900, x.scenarioNet(1));
        IS.due(0, x.taken(0));
        IS.due(0, x.events(1, 0));
        IS.due(true, x.isSame(1));
        IS.due(0, x.events(1, 0));
    }

    static void netIsWhatIsLeft() {
        IS.at("its net is what is left of all of these");
        Layertreaty x = Markets.market(1000);
        x.treaty('r', 'o', 0, 999, 100, 500);
        x.reinstate(0, 5, 200, false);
        x.setPremium(0, 1000000);
        scenario(x, 5, 1, 60);
        // Neither prices, nor shares, nor who failed.
        IS.due(400, x.scenarioNet(0));
        x.share(0, 0, 50);
        x.fail(0, true);
        IS.due(400, x.scenarioNet(0));
        x.treaty('e', 'o', 0, 999, 50, 10);
        IS.due(390, x.scenarioNet(0));
        x.reinstate(1, 3, 0, false);
        IS.due(360, x.scenarioNet(0));
        x.treaty('a', 'o', 0, 999, 300, 60);
        IS.due(300, x.scenarioNet(0));
        x.treaty('q', 'o', 0, 999, 100, 0);
        IS.due(400 - 400, x.scenarioNet(0));
        // A treaty that was commuted covers nothing, and what was paid for it is no part of this.
        x.commute(3, 1000);
        IS.due(300, x.scenarioNet(0));
        x.commute(2, 0);
        x.commute(1, 0);
        x.commute(0, 0);
        IS.due(2400, x.scenarioNet(0));
    }

    static void policiesAddedLater() {
        IS.at("all policies, those added later, too");
        Layertreaty x = new Layertreaty();
        scenario(x, 5, 1, 100);
        IS.due(0, x.scenarioNet(0));
        x.policy(10, 0, 0, 999);
        IS.due(10, x.scenarioNet(0));
        x.treaty('q', 'o', 0, 999, 50, 0);
        IS.due(5, x.scenarioNet(0));
        x.policy(20, 0, 0, 999);
        IS.due(15, x.scenarioNet(0));
    }

    static void oneDayIsOneEvent() {
        IS.at("the losses of a scenario are of one day: an event in each zone");
        Layertreaty x = new Layertreaty();
        for (int i = 0; i < 4; i++) {
            x.policy(100, i % 2, 0, 999);
        }
        x.treaty('e', 'o', 0, 999, 150, 30);
        x.reinstate(0, 1, 0, false);
        scenario(x, 0, 1, 100);
        IS.due(400 - 60, x.scenarioNet(0));
        x.reinstate(0, 0, 0, false);
        IS.due(400 - 30, x.scenarioNet(0));
    }

    // ---- tail ----

    /** Scenarios with these nets, in hundreds, and weights. */
    private static Layertreaty nets(int[] hundreds, int... weights) {
        Layertreaty x = new Layertreaty();
        x.policy(10000, 0, 0, 999);
        for (int i = 0; i < weights.length; i++) {
            x.scenario(i, weights[i]);
            x.damage(i, 0, hundreds[i]);
        }
        return x;
    }

    static void oneScenario() {
        IS.at("the tail of one scenario");
        Layertreaty x = nets(new int[] {7}, 9);
        IS.due(700, x.tail(0));
        IS.due(700, x.tail(50));
        IS.due(700, x.tail(99));
        IS.due(700.0, x.meanNet());
        Layertreaty y = nets(new int[] {0}, 1);
        IS.due(0, y.tail(0));
        IS.due(0, y.tail(99));
    }

    static void atMostTheseHundredths() {
        IS.at("scenarios with a greater net have together at most these hundredths of all weights");
        // Of two halves: exactly 50 is enough.
        Layertreaty x = nets(new int[] {10, 20}, 1, 1);
        IS.due(2000, x.tail(0));
        IS.due(2000, x.tail(49));
        IS.due(1000, x.tail(50));
        IS.due(1000, x.tail(99));
        // A third is more than 33 and less than 34, two of them more than 66 and less than 67.
        Layertreaty y = nets(new int[] {30, 10, 20}, 1, 1, 1);
        IS.due(3000, y.tail(33));
        IS.due(2000, y.tail(34));
        IS.due(2000, y.tail(66));
        IS.due(1000, y.tail(67));
        // 1 of 100, and 99 of 100.
        int[] weights = {1, 9, 9, 9, 9, 9, 9, 9, 9, 9, 9, 9};
        int[] hundreds = {50, 10, 10, 10, 10, 10, 10, 10, 10, 10, 10, 10};
        Layertreaty z = nets(hundreds, weights);
        IS.due(5000, z.tail(0));
        IS.due(1000, z.tail(1));
        hundreds[0] = 5;
        Layertreaty w = nets(hundreds, weights);
        IS.due(1000, w.tail(98));
        IS.due(500, w.tail(99));
    }

    static void ninetyNineHundredths() {
        IS.at("99 hundredths allow all scenarios but the one with the least net");
        for (int least = 0; least < 12; least++) {
            int[] hundreds = {10, 11, 12, 13, 14, 15, 16, 17, 18, 19, 20, 21};
            hundreds[least] = 3;
            int[] weights = {9, 9, 9, 9, 9, 9, 9, 9, 9, 9, 9, 9};
            weights[least] = 1;
            IS.due(300, nets(hundreds, weights).tail(99));
            IS.due(least == 0 ? 1100 : 1000, nets(hundreds, weights).tail(98));
        }
    }

    static void netsOfNothing() {
        IS.at("scenarios with a net of 0 have weights, too");
        Layertreaty x = nets(new int[] {0, 10}, 1, 1);
        IS.due(1000, x.tail(49));
        IS.due(0, x.tail(50));
        IS.due(500.0, x.meanNet());
        Layertreaty y = nets(new int[] {0, 0, 0, 10}, 9, 9, 9, 9);
        IS.due(1000, y.tail(24));
        IS.due(0, y.tail(25));
    }

    static void equalNets() {
        IS.at("scenarios with a greater net, not with the same one");
        Layertreaty x = nets(new int[] {10, 20, 20, 20, 10}, 1, 2, 3, 4, 5);
        // 2000 with 9 of 15: 60 hundredths.
        IS.due(2000, x.tail(0));
        IS.due(2000, x.tail(59));
        IS.due(1000, x.tail(60));
        Layertreaty y = nets(new int[] {10, 10, 10}, 9, 9, 9);
        IS.due(1000, y.tail(0));
        IS.due(1000, y.tail(99));
    }

    static void tailWithoutRegardToTheOrder() {
        IS.at("the tail, whichever scenario was added first");
        int[][] orders = {{0, 1, 2}, {0, 2, 1}, {1, 0, 2}, {1, 2, 0}, {2, 0, 1}, {2, 1, 0}};
        for (int[] order : orders) {
            int[] hundreds = new int[3];
            int[] weights = new int[3];
            for (int i = 0; i < 3; i++) {
                hundreds[i] = 10 * (order[i] + 1);
                weights[i] = order[i] + 1;
            }
            Layertreaty x = nets(hundreds, weights);
            // 3000 with 3 of 6, 2000 with 2, 1000 with 1.
            IS.due(3000, x.tail(0));
            IS.due(3000, x.tail(49));
            IS.due(2000, x.tail(50));
            IS.due(2000, x.tail(83));
            IS.due(1000, x.tail(84));
        }
    }

    static void tailFollowsTheTreaties() {
        IS.at("the tail is a net");
        Layertreaty x = nets(new int[] {10, 20}, 1, 1);
        x.treaty('r', 'o', 1, 1, 500, 10000);
        IS.due(1000, x.tail(0));
        IS.due(500, x.tail(50));
        x.commute(0, 0);
        IS.due(2000, x.tail(0));
    }

    // ---- mean ----

    static void meanOfWeights() {
        IS.at("the sum of nets times weights divided by that of weights, as double");
        IS.due(1000.0, nets(new int[] {10}, 9).meanNet());
        IS.due(4000.0 / 3.0, nets(new int[] {10, 20}, 2, 1).meanNet());
        IS.due(1.0 / 3.0, thirds().meanNet());
        IS.due(0.0, nets(new int[] {0, 0}, 9, 1).meanNet());
    }

    private static Layertreaty thirds() {
        Layertreaty x = new Layertreaty();
        x.policy(1, 0, 0, 999);
        for (int i = 0; i < 3; i++) {
            x.scenario(i, 1);
        }
        x.damage(2, 0, 100);
        return x;
    }
}
