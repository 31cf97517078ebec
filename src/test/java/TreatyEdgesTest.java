/** The edges that the document names of policies, losses and treaties but e: what each covers and takes. */
final class TreatyEdgesTest {
    private static final Class<IndexOutOfBoundsException> INDEX = IndexOutOfBoundsException.class;
    private static final Checks IS = new Checks();

    public static void main(String[] args) {
        IS.runAll(TreatyEdgesTest.class);
    }

    /** What a treaty takes of a loss of this amount, of a policy of this sum. */
    private static void takes(long due, char kind, int a, int b, int sum, int amount) {
        Layertreaty x = Markets.single(sum, amount);
        x.treaty(kind, 'o', 0, 999, a, b);
        IS.due(due, x.taken(0));
        IS.due(due, x.takenFrom(0, 0));
        IS.due(amount - due, x.left(0));
        IS.due(true, x.isSound());
    }

    // ---- losses ----

    static void leftIsTheAmountAtFirst() {
        IS.at("what is left of a loss is its amount at first");
        IS.due(0, Markets.single(1000, 0).left(0));
        IS.due(1, Markets.single(1000, 1).left(0));
        // An amount may be greater than the policy's sum.
        IS.due(1000000, Markets.single(1, 1000000).left(0));
    }

    static void amountsCanBeSetAnew() {
        IS.at("an amount, which can be set anew");
        Layertreaty x = Markets.onDays(0, 7, 7);
        x.treaty('r', 'o', 0, 999, 5, 10);
        IS.due(0, x.taken(0));
        IS.due(0, x.setAmount(1, 6));
        IS.due(1, x.takenFrom(0, 1));
        IS.due(6, x.setAmount(1, 5));
        IS.due(0, x.takenFrom(0, 1));
        IS.due(5, x.setAmount(1, 15));
        IS.due(10, x.takenFrom(0, 1));
        IS.due(0, x.limit(0));
        // The loss keeps its place in the order: the first one is served ahead as soon as it grows.
        IS.due(0, x.setAmount(0, 8));
        IS.due(3, x.takenFrom(0, 0));
        IS.due(7, x.takenFrom(0, 1));
        IS.due(8, x.setAmount(0, 0));
        IS.due(10, x.takenFrom(0, 1));
        IS.due(2, x.losses());
    }

    static void orderByDays() {
        IS.at("the losses go through treaties in an order by their days");
        Layertreaty x = Markets.onDays(10, 999, 500, 1, 0);
        x.treaty('r', 'o', 0, 999, 0, 25);
        IS.due(10, x.takenFrom(0, 3));
        IS.due(10, x.takenFrom(0, 2));
        IS.due(5, x.takenFrom(0, 1));
        IS.due(0, x.takenFrom(0, 0));
    }

    static void orderByNumbers() {
        IS.at("of the same day by their numbers");
        Layertreaty x = Markets.market(1000);
        // Neither the policy, nor its zone, nor the amount, nor the day on which it was told counts.
        x.loss(3, 4, 900, 9);
        x.loss(2, 4, 800, 8);
        x.loss(1, 4, 700, 7);
        x.loss(0, 4, 4, 6);
        x.treaty('r', 'o', 0, 999, 0, 18);
        IS.due(9, x.takenFrom(0, 0));
        IS.due(8, x.takenFrom(0, 1));
        IS.due(1, x.takenFrom(0, 2));
        IS.due(0, x.takenFrom(0, 3));
        // One that is told later of an earlier day goes ahead of them all.
        IS.due(4, x.loss(0, 3, 999, 10));
        IS.due(10, x.takenFrom(0, 4));
        IS.due(8, x.takenFrom(0, 0));
        IS.due(0, x.takenFrom(0, 1));
    }

    // ---- who is covered ----

    /** Losses whose day of this basis is each of these; the other two days are far away. */
    private static Layertreaty lossesOf(char basis, int... days) {
        Layertreaty x = new Layertreaty();
        for (int i = 0; i < days.length; i++) {
            x.policy(1000, 0, basis == 'a' ? days[i] : 0, 999);
            x.loss(i, basis == 'o' ? days[i] : basis == 'a' ? 900 : 0, basis == 'c' ? days[i] : 950, 10);
        }
        return x;
    }

    private static void covers(char basis) {
        for (char kind : new char[] {'q', 'r', 'e', 'a', 's'}) {
            int a = kind == 'q' ? 100 : kind == 's' ? 500 : 0;
            int b = kind == 's' ? 1 : 1000;
            int due = kind == 's' ? 5 : 10;
            Layertreaty x = lossesOf(basis, 99, 100, 150, 200, 201);
            x.treaty(kind, basis, 100, 200, a, b);
            IS.due(0, x.takenFrom(0, 0));
            IS.due(due, x.takenFrom(0, 1));
            IS.due(due, x.takenFrom(0, 2));
            IS.due(due, x.takenFrom(0, 3));
            IS.due(0, x.takenFrom(0, 4));
            // Of one day, of the first one of all, and of the last one.
            Layertreaty y = lossesOf(basis, 149, 150, 151);
            y.treaty(kind, basis, 150, 150, a, b);
            IS.due(due, y.taken(0));
            IS.due(due, y.takenFrom(0, 1));
        }
        Layertreaty z = lossesOf(basis, 0, 1, 899);
        z.treaty('q', basis, 0, 0, 100, 0);
        z.treaty('q', basis, 899, 999, 100, 0);
        z.treaty('q', basis, 0, 999, 100, 0);
        IS.due(10, z.takenFrom(0, 0));
        IS.due(10, z.takenFrom(1, 2));
        IS.due(10, z.takenFrom(2, 1));
        IS.due(10, z.taken(0));
        IS.due(10, z.taken(1));
    }

    static void basisO() {
        IS.at("'o' covers a loss whose day is one of these");
        covers('o');
        Layertreaty x = Markets.onDays(10, 0, 999);
        x.treaty('q', 'o', 999, 999, 100, 0);
        IS.due(10, x.left(0));
        IS.due(0, x.left(1));
    }

    static void basisA() {
        IS.at("'a' covers a loss whose policy's first day is");
        covers('a');
    }

    static void basisC() {
        IS.at("'c' covers a loss that was told on such a day");
        covers('c');
        Layertreaty x = Markets.market(10);
        x.loss(0, 0, 999, 10);
        x.loss(0, 0, 998, 10);
        x.treaty('q', 'c', 999, 999, 100, 0);
        IS.due(0, x.left(0));
        IS.due(10, x.left(1));
    }

    // ---- q ----

    static void quotaOfNothingAndAll() {
        IS.at("q takes 0 or 100 hundredths");
        takes(0, 'q', 0, 0, 1000, 1000000);
        takes(1000000, 'q', 100, 0, 1000, 1000000);
        takes(0, 'q', 100, 0, 1000, 0);
        takes(1, 'q', 100, 0, 1000, 1);
    }

    static void quotaRoundedDown() {
        IS.at("q: rounded down");
        takes(0, 'q', 1, 0, 1000, 99);
        takes(1, 'q', 1, 0, 1000, 100);
        takes(1, 'q', 1, 0, 1000, 199);
        takes(0, 'q', 99, 0, 1000, 1);
        takes(98, 'q', 99, 0, 1000, 99);
        takes(989999, 'q', 99, 0, 1000, 999999);
        takes(0, 'q', 50, 0, 1000, 1);
    }

    static void quotaOfWhatIsLeft() {
        IS.at("q: hundredths of what is left");
        Layertreaty x = Markets.single(1000, 100);
        x.treaty('q', 'o', 0, 999, 50, 0);
        x.treaty('q', 'o', 0, 999, 50, 0);
        x.treaty('q', 'o', 0, 999, 100, 0);
        x.treaty('q', 'o', 0, 999, 100, 0);
        IS.due(50, x.taken(0));
        IS.due(25, x.taken(1));
        IS.due(25, x.taken(2));
        IS.due(0, x.taken(3));
        IS.due(0, x.left(0));
    }

    // ---- s ----

    static void surplusOnlyAboveTheLine() {
        IS.at("s, for a policy whose sum is greater than the line a");
        takes(0, 's', 300, 2, 299, 1000);
        takes(0, 's', 300, 2, 300, 1000);
        takes(3, 's', 300, 2, 301, 1000);
        takes(0, 's', 1, 20, 1, 1000);
        takes(500, 's', 1, 20, 2, 1000);
        takes(0, 's', 1000000, 20, 1000000, 1000000);
        takes(1, 's', 999999, 20, 1000000, 1000000);
        takes(0, 's', 999999, 20, 1000000, 999999);
    }

    static void surplusTheLesser() {
        IS.at("s: the lesser of the sum less the line, and the line times b");
        // 599 and 600 of the sum less the line, then 600 of 601; more than all would be taken otherwise.
        takes(665, 's', 300, 2, 899, 999);
        takes(666, 's', 300, 2, 900, 999);
        takes(665, 's', 300, 2, 901, 999);
        takes(500, 's', 300, 1, 600, 1000);
        takes(499, 's', 300, 1, 601, 1000);
        takes(950000, 's', 1, 20, 20, 1000000);
        takes(952380, 's', 1, 20, 21, 1000000);
        takes(909090, 's', 1, 20, 22, 1000000);
        takes(952380, 's', 47619, 20, 1000000, 1000000);
        takes(20, 's', 1, 20, 1000000, 1000000);
        takes(1, 's', 1, 1, 1000000, 1000000);
        takes(0, 's', 1, 1, 1000000, 999999);
    }

    static void surplusOfWhatIsLeft() {
        IS.at("s: what is left times");
        Layertreaty x = Markets.single(1000, 999);
        x.treaty('q', 'o', 0, 999, 50, 0);
        x.treaty('s', 'o', 0, 999, 500, 1);
        x.treaty('s', 'o', 0, 999, 500, 1);
        // 499 are taken, half of 500 and half of 250.
        IS.due(250, x.taken(1));
        IS.due(125, x.taken(2));
        takes(0, 's', 1, 20, 1000, 0);
    }

    // ---- r ----

    static void riskAboveA() {
        IS.at("r takes what is above a");
        takes(0, 'r', 100, 60, 1000, 0);
        takes(0, 'r', 100, 60, 1000, 99);
        takes(0, 'r', 100, 60, 1000, 100);
        takes(1, 'r', 100, 60, 1000, 101);
        takes(0, 'r', 1000000, 60, 1000, 1000000);
        takes(1, 'r', 999999, 60, 1000, 1000000);
        takes(1, 'r', 0, 1, 1000, 1);
        takes(0, 'r', 0, 1, 1000, 0);
    }

    static void riskAtMostB() {
        IS.at("r: but at most b");
        takes(59, 'r', 100, 60, 1000, 159);
        takes(60, 'r', 100, 60, 1000, 160);
        takes(60, 'r', 100, 60, 1000, 161);
        takes(1, 'r', 0, 1, 1000, 1000000);
        takes(1000000, 'r', 0, 1000000, 1000, 1000000);
        takes(999999, 'r', 1, 1000000, 1000, 1000000);
    }

    static void riskAtMostWhatItsLimitHasLeft() {
        IS.at("r: at most what its limit has left");
        // The first two use it up exactly.
        Layertreaty x = Markets.daily(60, 40, 1);
        x.treaty('r', 'o', 0, 999, 0, 100);
        IS.due(60, x.takenFrom(0, 0));
        IS.due(40, x.takenFrom(0, 1));
        IS.due(0, x.takenFrom(0, 2));
        IS.due(0, x.limit(0));
        // One is left for the third one.
        x.setAmount(1, 39);
        IS.due(1, x.takenFrom(0, 2));
        IS.due(0, x.limit(0));
        // The second one would have 1 more.
        x.setAmount(1, 41);
        IS.due(40, x.takenFrom(0, 1));
        IS.due(1, x.left(1));
        x.setAmount(1, 0);
        IS.due(39, x.limit(0));
    }

    static void limitIsBTimesOneMoreThanReinstatements() {
        IS.at("the limit of r and e is b times 1 more than the number of its reinstatements");
        for (char kind : new char[] {'r', 'e'}) {
            Layertreaty x = Markets.onDays(100, 0, 10, 20, 30, 40, 50, 60);
            x.treaty(kind, 'o', 0, 999, 0, 100);
            for (int many = 0; many <= 5; many++) {
                x.reinstate(0, many, 0, false);
                IS.due(100 * (many + 1), x.taken(0));
                IS.due(100, x.takenFrom(0, many));
                IS.due(0, x.takenFrom(0, many + 1));
                IS.due(0, x.limit(0));
            }
            Layertreaty y = Markets.market(1000);
            y.treaty(kind, 'o', 0, 999, 0, 1000000);
            IS.due(1000000, y.limit(0));
            y.reinstate(0, 1, 0, false);
            IS.due(2000000, y.limit(0));
            y.reinstate(0, 5, 0, false);
            IS.due(6000000, y.limit(0));
            y.treaty(kind, 'o', 0, 999, 0, 1);
            IS.due(1, y.limit(1));
            // Fewer again: what is taken is less, too.
            x.reinstate(0, 0, 0, false);
            IS.due(100, x.taken(0));
            IS.due(true, x.isSound());
        }
    }

    static void limitOfOthersIsWithoutEnd() {
        IS.at("that of others is without end");
        for (char kind : new char[] {'q', 's', 'a'}) {
            Layertreaty x = Markets.market(1000000);
            for (int i = 0; i < 30; i++) {
                x.loss(0, 0, 0, 1000000);
            }
            x.treaty(kind, 'o', 0, 999, kind == 'q' ? 100 : kind == 's' ? 500000 : 0, kind == 's' ? 1 : 1000000);
            IS.due(kind == 'q' ? 30000000 : kind == 's' ? 15000000 : 1000000, x.taken(0));
            IS.due(0, x.reinstated(0));
        }
    }

    // ---- the order of treaties ----

    static void treatiesByTheirNumbers() {
        IS.at("for each loss, the treaties q, s and r by their numbers");
        String[] orders = {"qsr", "qrs", "sqr", "srq", "rqs", "rsq"};
        // Of 1000: q 50 hundredths, s half, r what is above 300 and at most 400.
        long[][] due = {{500, 250, 0}, {500, 200, 150}, {500, 250, 0}, {500, 200, 150}, {400, 300, 150}, {400, 300, 150}};
        for (int i = 0; i < orders.length; i++) {
            Layertreaty x = Markets.single(1000, 1000);
            for (int k = 0; k < 3; k++) {
                char kind = orders[i].charAt(k);
                x.treaty(kind, 'o', 0, 999, kind == 'q' ? 50 : kind == 's' ? 500 : 300, kind == 's' ? 1 : 400);
            }
            for (int k = 0; k < 3; k++) {
                IS.due(due[i][k], x.taken(k));
            }
        }
    }

    static void eachLossThroughAllOfThem() {
        IS.at("first, for each loss, the treaties q, s and r");
        // The limit of the r behind a q is used by the first loss wholly, before the second one comes to the q.
        Layertreaty x = Markets.daily(100, 100);
        x.treaty('r', 'o', 0, 999, 10, 60);
        x.treaty('r', 'o', 0, 999, 10, 60);
        IS.due(60, x.takenFrom(0, 0));
        IS.due(30, x.takenFrom(1, 0));
        IS.due(0, x.takenFrom(0, 1));
        IS.due(30, x.takenFrom(1, 1));
    }

    static void thenEThenA() {
        IS.at("then the treaties e, last the treaties a");
        Layertreaty x = Markets.single(1000, 1000);
        x.treaty('a', 'o', 0, 999, 0, 500);
        x.treaty('e', 'o', 0, 999, 0, 600);
        x.treaty('r', 'o', 0, 999, 0, 300);
        IS.due(300, x.taken(2));
        IS.due(600, x.taken(1));
        IS.due(100, x.taken(0));
        IS.due(0, x.left(0));
        // The e and the a, too, by their numbers.
        Layertreaty y = Markets.single(1000, 1000);
        y.treaty('a', 'o', 0, 999, 0, 300);
        y.treaty('e', 'o', 0, 999, 0, 250);
        y.treaty('a', 'o', 0, 999, 50, 300);
        y.treaty('e', 'o', 0, 999, 400, 450);
        IS.due(250, y.taken(1));
        IS.due(350, y.taken(3));
        IS.due(300, y.taken(0));
        IS.due(50, y.taken(2));
    }

    // ---- a ----

    static void yearAboveAAtMostB() {
        IS.at("a: the sum of what is left of them, above a, but at most b");
        takes(0, 'a', 100, 60, 1000, 99);
        takes(0, 'a', 100, 60, 1000, 100);
        takes(1, 'a', 100, 60, 1000, 101);
        takes(59, 'a', 100, 60, 1000, 159);
        takes(60, 'a', 100, 60, 1000, 160);
        takes(60, 'a', 100, 60, 1000, 161);
        takes(0, 'a', 1000000, 60, 1000, 1000000);
        takes(1, 'a', 0, 1, 1000, 1000000);
        takes(1000000, 'a', 0, 1000000, 1000, 1000000);
        takes(0, 'a', 0, 1, 1000, 0);
    }

    static void yearOfAllZonesAndDays() {
        IS.at("a: for all losses that each covers, of whichever zone and day");
        Layertreaty x = Markets.market(1000);
        x.loss(0, 0, 0, 50);
        x.loss(3, 999, 999, 50);
        x.treaty('a', 'o', 0, 999, 99, 10);
        IS.due(1, x.taken(0));
        x.treaty('a', 'o', 0, 998, 49, 10);
        // The first one took 1 of the first loss.
        IS.due(0, x.taken(1));
        x.treaty('a', 'o', 0, 998, 48, 10);
        IS.due(1, x.taken(2));
        IS.due(48, x.left(0));
        IS.due(50, x.left(1));
    }

    static void yearDividedByWhatIsLeft() {
        IS.at("a: divided likewise, by what is left of each");
        Layertreaty x = new Layertreaty();
        x.policy(1000, 0, 0, 999);
        x.policy(1000, 1, 5, 999);
        x.loss(0, 10, 10, 50);
        x.loss(1, 10, 10, 100);
        x.treaty('q', 'a', 5, 5, 50, 0);
        x.treaty('a', 'o', 0, 999, 90, 100);
        IS.due(5, x.takenFrom(1, 0));
        IS.due(5, x.takenFrom(1, 1));
    }

    static void yearRemainderInTheOrderOfLosses() {
        IS.at("a: the remainder by 1 each for the first ones in the order of losses");
        // The loss of the earliest day has the number 2.
        Layertreaty x = Markets.onDays(10, 30, 20, 10);
        x.treaty('a', 'o', 0, 999, 29, 5);
        IS.due(1, x.takenFrom(0, 2));
        IS.due(0, x.takenFrom(0, 1));
        IS.due(0, x.takenFrom(0, 0));
        x.treaty('a', 'o', 0, 999, 27, 5);
        // 2 of 10, 10 and 9: none by division, 1 for each of the first two.
        IS.due(1, x.takenFrom(1, 2));
        IS.due(1, x.takenFrom(1, 1));
        IS.due(0, x.takenFrom(1, 0));
        x.treaty('a', 'o', 0, 999, 0, 27);
        IS.due(27, x.taken(2));
        IS.due(0, x.left(0));
    }

    static void yearOnlyOfWhatSomethingIsLeft() {
        IS.at("a: of which something is left");
        Layertreaty x = Markets.daily(0, 1, 1);
        x.treaty('a', 'o', 0, 999, 1, 5);
        IS.due(0, x.takenFrom(0, 0));
        IS.due(1, x.takenFrom(0, 1));
        IS.due(0, x.takenFrom(0, 2));
        x.treaty('a', 'o', 0, 999, 0, 5);
        IS.due(0, x.takenFrom(1, 0));
        IS.due(0, x.takenFrom(1, 1));
        IS.due(1, x.takenFrom(1, 2));
        // Nothing is left for the third one.
        x.treaty('a', 'o', 0, 999, 0, 5);
        IS.due(0, x.taken(2));
    }

    // ---- promises 14 to 16 and 31 to 34 ----

    static void takenFromOfTreatiesThatDoNotCover() {
        IS.at("takenFrom a loss that a treaty does not cover");
        Layertreaty x = Markets.daily(100, 100);
        x.treaty('q', 'o', 2, 2, 50, 0);
        IS.due(0, x.takenFrom(0, 0));
        IS.due(50, x.takenFrom(0, 1));
        IS.dueThrow(INDEX, () -> x.takenFrom(0, 2));
    }

    static void leftShareEdges() {
        IS.at("the share of all losses that is left, as float");
        Layertreaty x = Markets.single(1000, 1);
        IS.due(1.0f, x.leftShare());
        x.treaty('q', 'o', 0, 999, 100, 0);
        IS.due(0.0f, x.leftShare());
        Layertreaty y = Markets.single(1000, 3);
        y.treaty('r', 'o', 0, 999, 1, 1);
        IS.due(2f / 3f, y.leftShare());
        y.setAmount(0, 0);
        IS.dueThrow(ArithmeticException.class, () -> y.leftShare());
        y.setAmount(0, 1);
        IS.due(1.0f, y.leftShare());
        // 16777217 is no float: it is converted to 16777216, and so is what is left.
        Layertreaty z = Markets.market(1000);
        for (int i = 0; i < 17; i++) {
            z.loss(0, i, i, i == 16 ? 777217 : 1000000);
        }
        IS.due(16777217, z.allLosses());
        z.treaty('r', 'o', 0, 0, 0, 1);
        IS.due(1.0f, z.leftShare());
        z.treaty('r', 'o', 1, 1, 0, 1);
        IS.due(16777215f / 16777216f, z.leftShare());
    }

    static void allLossesIsTheSumOfAmounts() {
        IS.at("the sum of the amounts of all losses, whoever takes of them");
        Layertreaty x = Markets.daily(0, 1, 1000000);
        IS.due(1000001, x.allLosses());
        x.treaty('q', 'o', 0, 999, 100, 0);
        IS.due(1000001, x.allLosses());
        x.setAmount(2, 0);
        IS.due(1, x.allLosses());
        x.setAmount(1, 0);
        IS.due(0, x.allLosses());
    }

    static void soundAtTheLimit() {
        IS.at("sound where a limit is used up, and where it is not");
        for (int amount = 99; amount <= 101; amount++) {
            Layertreaty x = Markets.single(1000, amount);
            x.loss(0, 6, 6, 100);
            x.treaty('r', 'o', 0, 999, 0, 100);
            IS.due(true, x.isSound());
            IS.due(0, x.limit(0));
            IS.due(Math.min(100, amount), x.takenFrom(0, 0));
            x.reinstate(0, 1, 0, false);
            IS.due(true, x.isSound());
            // A limit that is set anew behind a commutation is passed by nothing.
            x.commute(0, 0);
            x.reinstate(0, 0, 0, false);
            IS.due(true, x.isSound());
        }
    }
}
