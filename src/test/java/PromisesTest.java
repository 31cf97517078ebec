import java.util.NoSuchElementException;

/** For each promise of the document: ordinary inputs, the edges that it names, and wrong inputs. */
final class PromisesTest {
    private static final Class<IndexOutOfBoundsException> INDEX = IndexOutOfBoundsException.class;
    private static final Class<IllegalArgumentException> ARGUMENT = IllegalArgumentException.class;
    private static final Class<UnsupportedOperationException> UNSUPPORTED = UnsupportedOperationException.class;
    private static final Class<IllegalStateException> STATE = IllegalStateException.class;
    private static final Class<NoSuchElementException> ELEMENT = NoSuchElementException.class;
    private static final Class<ArithmeticException> ARITHMETIC = ArithmeticException.class;
    private static final int LEAST = Integer.MIN_VALUE;
    private static final int MOST = Integer.MAX_VALUE;

    private static final Checks IS = new Checks();

    public static void main(String[] args) {
        newObject();
        policy();
        loss();
        lossOrder();
        setAmount();
        treatyRanges();
        treatyBasis();
        quotaAndSurplus();
        eachRisk();
        year();
        setDays();
        reinstate();
        setPremium();
        share();
        fail();
        handOn();
        rings();
        commute();
        commutedStays();
        left();
        taken();
        takenFrom();
        limit();
        reinstated();
        owed();
        events();
        eventsByZoneAndTime();
        eventTies();
        eventOf();
        isSame();
        paid();
        lost();
        comesAndStays();
        net();
        scenario();
        damage();
        scenarioNet();
        tail();
        numbers();
        leftShare();
        meanNet();
        isSound();
        throwsChangeNothing();
        IS.end("PromisesTest");
    }

    private static void newObject() {
        IS.at("promise 1");
        Layertreaty x = new Layertreaty();
        IS.due(0, x.losses());
        IS.due(0, x.treaties());
        IS.due(0, x.allLosses());
        IS.due(0, x.net());
        IS.due(true, x.isSound());
        for (int i = 0; i < 5; i++) {
            IS.due(0, x.comes(i));
            IS.due(0, x.stays(i));
            IS.due(0, x.lost(i));
        }
        IS.dueThrow(INDEX, () -> x.loss(0, 0, 0, 0));
        IS.dueThrow(ELEMENT, () -> x.tail(0));
    }

    private static void policy() {
        IS.at("promise 2");
        Layertreaty x = new Layertreaty();
        IS.due(0, x.policy(1, 0, 0, 0));
        IS.due(1, x.policy(1000000, 3, 0, 999));
        IS.due(2, x.policy(5, 1, 999, 999));
        IS.dueThrow(ARGUMENT, () -> x.policy(0, 0, 0, 0));
        IS.dueThrow(ARGUMENT, () -> x.policy(1000001, 0, 0, 0));
        IS.dueThrow(ARGUMENT, () -> x.policy(LEAST, 0, 0, 0));
        IS.dueThrow(ARGUMENT, () -> x.policy(1, -1, 0, 0));
        IS.dueThrow(ARGUMENT, () -> x.policy(1, 4, 0, 0));
        IS.dueThrow(ARGUMENT, () -> x.policy(1, 0, -1, 0));
        IS.dueThrow(ARGUMENT, () -> x.policy(1, 0, 0, 1000));
        IS.dueThrow(ARGUMENT, () -> x.policy(1, 0, 1000, 1000));
        IS.dueThrow(ARGUMENT, () -> x.policy(1, 0, 7, 6));
        for (int i = 3; i < 12; i++) {
            IS.due(i, x.policy(1, 0, 0, 999));
        }
        IS.dueThrow(STATE, () -> x.policy(1, 0, 0, 999));
        IS.dueThrow(ARGUMENT, () -> x.policy(0, 0, 0, 999));
    }

    private static void loss() {
        IS.at("promise 3");
        Layertreaty x = new Layertreaty();
        x.policy(10, 0, 5, 8);
        IS.due(0, x.loss(0, 5, 5, 0));
        IS.due(1, x.loss(0, 8, 999, 1000000));
        IS.due(1000000, x.allLosses());
        IS.dueThrow(INDEX, () -> x.loss(1, 5, 5, 1));
        IS.dueThrow(INDEX, () -> x.loss(-1, 5, 5, 1));
        IS.dueThrow(INDEX, () -> x.loss(MOST, -5, 5, -1));
        IS.dueThrow(ARGUMENT, () -> x.loss(0, -1, 5, 1));
        IS.dueThrow(ARGUMENT, () -> x.loss(0, 1000, 1000, 1));
        IS.dueThrow(ARGUMENT, () -> x.loss(0, 5, 1000, 1));
        IS.dueThrow(ARGUMENT, () -> x.loss(0, 6, 5, 1));
        IS.dueThrow(ARGUMENT, () -> x.loss(0, 5, 5, -1));
        IS.dueThrow(ARGUMENT, () -> x.loss(0, 5, 5, 1000001));
        IS.dueThrow(ARGUMENT, () -> x.loss(0, 9, 8, 1));
        IS.dueThrow(UNSUPPORTED, () -> x.loss(0, 4, 5, 1));
        IS.dueThrow(UNSUPPORTED, () -> x.loss(0, 9, 9, 1));
        for (int i = 2; i < 30; i++) {
            IS.due(i, x.loss(0, 6, 7, 1));
        }
        IS.dueThrow(STATE, () -> x.loss(0, 6, 7, 1));
        IS.dueThrow(UNSUPPORTED, () -> x.loss(0, 9, 9, 1));
        IS.due(30, x.losses());
    }

    private static void lossOrder() {
        IS.at("terms, order of losses");
        // By days, of the same day by numbers: a limit of 10 goes to the third loss, then to the first one.
        Layertreaty x = Markets.onDays(8, 20, 20, 10, 30);
        x.treaty('r', 'o', 0, 999, 0, 10);
        IS.due(8, x.takenFrom(0, 2));
        IS.due(2, x.takenFrom(0, 0));
        IS.due(0, x.takenFrom(0, 1));
        IS.due(0, x.takenFrom(0, 3));
        x.loss(0, 9, 9, 9);
        IS.due(9, x.takenFrom(0, 4));
        IS.due(1, x.takenFrom(0, 2));
        IS.due(0, x.takenFrom(0, 0));
        // The day on which a loss was told is of no meaning for the order.
        Layertreaty y = Markets.market(1000);
        y.loss(0, 10, 50, 8);
        y.loss(0, 11, 11, 8);
        y.treaty('r', 'c', 0, 999, 0, 10);
        IS.due(8, y.takenFrom(0, 0));
        IS.due(2, y.takenFrom(0, 1));
    }

    private static void setAmount() {
        IS.at("promise 4");
        Layertreaty x = Markets.onDays(100, 1, 2);
        x.treaty('r', 'o', 0, 999, 10, 50);
        IS.due(50, x.takenFrom(0, 0));
        IS.due(100, x.setAmount(0, 30));
        IS.due(30, x.setAmount(0, 30));
        IS.due(20, x.takenFrom(0, 0));
        IS.due(30, x.takenFrom(0, 1));
        IS.due(30, x.setAmount(0, 0));
        IS.due(0, x.left(0));
        IS.due(100, x.allLosses());
        IS.due(0, x.setAmount(0, 1000000));
        IS.dueThrow(INDEX, () -> x.setAmount(2, 0));
        IS.dueThrow(INDEX, () -> x.setAmount(-1, -1));
        IS.dueThrow(ARGUMENT, () -> x.setAmount(0, -1));
        IS.dueThrow(ARGUMENT, () -> x.setAmount(0, 1000001));
        IS.due(1000000, x.setAmount(0, 1));
    }

    private static void treatyRanges() {
        IS.at("promise 5");
        Layertreaty x = new Layertreaty();
        String kinds = "qsrea";
        for (int i = 0; i < 65536; i++) {
            char sign = (char) i;
            if (kinds.indexOf(sign) < 0) {
                IS.dueThrow(ARGUMENT, () -> x.treaty(sign, 'o', 0, 0, 1, 1));
            }
            if ("oac".indexOf(sign) < 0) {
                IS.dueThrow(ARGUMENT, () -> x.treaty('q', sign, 0, 0, 1, 1));
            }
        }
        for (int i = 0; i < kinds.length(); i++) {
            char kind = kinds.charAt(i);
            IS.dueThrow(ARGUMENT, () -> x.treaty(kind, 'o', -1, 0, 1, 1));
            IS.dueThrow(ARGUMENT, () -> x.treaty(kind, 'o', 0, 1000, 1, 1));
            IS.dueThrow(ARGUMENT, () -> x.treaty(kind, 'o', 1, 0, 1, 1));
            IS.dueThrow(ARGUMENT, () -> x.treaty(kind, 'o', 0, 0, -1, 1));
            IS.dueThrow(ARGUMENT, () -> x.treaty(kind, 'o', 0, 0, kind == 'q' ? 101 : 1000001, 1));
        }
        IS.dueThrow(ARGUMENT, () -> x.treaty('s', 'o', 0, 0, 0, 1));
        IS.dueThrow(ARGUMENT, () -> x.treaty('s', 'o', 0, 0, 1, 0));
        IS.dueThrow(ARGUMENT, () -> x.treaty('s', 'o', 0, 0, 1, 21));
        for (char kind : new char[] {'r', 'e', 'a'}) {
            IS.dueThrow(ARGUMENT, () -> x.treaty(kind, 'o', 0, 0, 1, 0));
            IS.dueThrow(ARGUMENT, () -> x.treaty(kind, 'o', 0, 0, 1, 1000001));
        }
        IS.due(0, x.treaties());
        IS.due(0, x.treaty('q', 'o', 0, 0, 0, LEAST));
        IS.due(1, x.treaty('q', 'a', 0, 999, 100, MOST));
        IS.due(2, x.treaty('s', 'c', 999, 999, 1, 20));
        IS.due(3, x.treaty('s', 'c', 3, 5, 1000000, 1));
        IS.due(4, x.treaty('r', 'o', 0, 0, 0, 1));
        IS.due(5, x.treaty('e', 'o', 0, 0, 1000000, 1000000));
        IS.due(6, x.treaty('a', 'o', 0, 0, 0, 1000000));
        IS.due(7, x.treaty('a', 'o', 0, 0, 1000000, 1));
        IS.dueThrow(STATE, () -> x.treaty('q', 'o', 0, 0, 0, 0));
        IS.dueThrow(ARGUMENT, () -> x.treaty('q', 'o', 0, 0, 101, 0));
        // Without reinstatements, premium and shares.
        IS.due(0, x.reinstate(4, 0, 0, false));
        IS.due(0, x.setPremium(4, 0));
        IS.due(0, x.share(4, 0, 0));
    }

    private static void treatyBasis() {
        IS.at("terms, who is covered");
        for (char basis : new char[] {'o', 'a', 'c'}) {
            Layertreaty x = new Layertreaty();
            x.policy(1000, 0, 10, 100);
            x.policy(1000, 0, 20, 100);
            x.policy(1000, 0, 30, 100);
            x.loss(0, 20, 30, 10);
            x.loss(0, 21, 31, 10);
            x.loss(1, 29, 29, 10);
            x.loss(1, 30, 40, 10);
            x.loss(1, 31, 41, 10);
            x.loss(2, 32, 32, 10);
            x.treaty('q', basis, 20, 30, 100, 0);
            String covered = basis == 'o' ? "111100" : basis == 'a' ? "001111" : "101000";
            for (int i = 0; i < 6; i++) {
                IS.due(covered.charAt(i) == '1' ? 0 : 10, x.left(i));
            }
        }
    }

    private static void quotaAndSurplus() {
        IS.at("terms, q and s");
        Layertreaty x = new Layertreaty();
        x.policy(1000, 0, 0, 999);
        x.policy(300, 0, 0, 999);
        x.policy(301, 0, 0, 999);
        x.policy(1000000, 0, 0, 999);
        for (int i = 0; i < 4; i++) {
            x.loss(i, 0, 0, 999);
        }
        x.treaty('q', 'o', 0, 999, 33, 0);
        x.treaty('s', 'o', 0, 999, 300, 2);
        // 999 * 33 / 100 = 329.67; of 670 then 600 / 1000, nothing, 1 / 301, and 600 / 1000000.
        IS.due(329, x.takenFrom(0, 0));
        IS.due(402, x.takenFrom(1, 0));
        IS.due(268, x.left(0));
        IS.due(0, x.takenFrom(1, 1));
        IS.due(2, x.takenFrom(1, 2));
        IS.due(0, x.takenFrom(1, 3));
        // By their numbers: what the first one took the second one has not.
        Layertreaty y = Markets.onDays(999, 0);
        y.treaty('s', 'o', 0, 999, 300, 20);
        y.treaty('q', 'o', 0, 999, 33, 0);
        IS.due(699, y.takenFrom(0, 0));
        IS.due(99, y.takenFrom(1, 0));
        // All of a great loss of a great policy.
        Layertreaty z = Markets.market(1000000);
        z.loss(0, 0, 0, 1000000);
        z.treaty('s', 'o', 0, 999, 1, 20);
        z.treaty('s', 'o', 0, 999, 100000, 20);
        IS.due(20, z.takenFrom(0, 0));
        IS.due(899982, z.takenFrom(1, 0));
    }

    private static void eachRisk() {
        IS.at("terms, r");
        Layertreaty x = Markets.onDays(0, 1, 2, 3, 4, 5);
        x.setAmount(0, 100);
        x.setAmount(1, 101);
        x.setAmount(2, 140);
        x.setAmount(3, 500);
        x.treaty('r', 'o', 0, 999, 100, 60);
        IS.due(0, x.takenFrom(0, 0));
        IS.due(1, x.takenFrom(0, 1));
        IS.due(40, x.takenFrom(0, 2));
        IS.due(19, x.takenFrom(0, 3));
        IS.due(481, x.left(3));
        x.reinstate(0, 1, 0, false);
        IS.due(60, x.takenFrom(0, 3));
        IS.due(101, x.taken(0));
        IS.due(19, x.limit(0));
        // Each loss goes through q, s and r by their numbers before the next one does, and r, too, takes from what is left.
        x.treaty('q', 'o', 0, 999, 50, 0);
        IS.due(220, x.takenFrom(1, 3));
        IS.due(220, x.left(3));
    }

    private static void year() {
        IS.at("terms, a");
        Layertreaty x = Markets.onDays(10, 5, 6, 7);
        x.loss(1, 4, 4, 10);
        x.loss(2, 8, 8, 0);
        x.treaty('a', 'o', 0, 999, 15, 20);
        // 40 less 15, but at most 20: 5 of each of four.
        for (int i = 0; i < 4; i++) {
            IS.due(5, x.takenFrom(0, i));
        }
        IS.due(0, x.takenFrom(0, 4));
        // 3 are divided among four that have as much: 1 for each of the first three in the order of losses.
        Layertreaty y = Markets.onDays(10, 5, 6, 7);
        y.loss(1, 4, 4, 10);
        y.treaty('a', 'o', 0, 999, 37, 20);
        IS.due(1, y.takenFrom(0, 3));
        IS.due(1, y.takenFrom(0, 0));
        IS.due(1, y.takenFrom(0, 1));
        IS.due(0, y.takenFrom(0, 2));
        // It comes behind e, whatever the numbers.
        y.treaty('e', 'o', 0, 999, 2, 1);
        y.setDays(1, 1);
        IS.due(1, y.taken(1));
        IS.due(2, y.taken(0));
        Layertreaty z = Markets.onDays(10, 0, 999);
        z.treaty('a', 'o', 0, 999, 0, 1000000);
        IS.due(20, z.taken(0));
        // No limit ends it: several take one behind the other.
        y.treaty('a', 'o', 0, 999, 0, 1000000);
        IS.due(37, y.taken(2));
        IS.due(0, y.left(2));
    }

    private static void setDays() {
        IS.at("promise 6");
        Layertreaty x = Markets.onDays(10, 1, 3, 4);
        x.treaty('e', 'o', 0, 999, 0, 1000);
        x.treaty('q', 'o', 0, 999, 0, 0);
        IS.due(2, x.events(0, 0));
        IS.due(3, x.setDays(0, 4));
        IS.due(1, x.events(0, 0));
        IS.due(4, x.setDays(0, 1));
        IS.due(3, x.events(0, 0));
        IS.due(1, x.setDays(0, 9));
        IS.due(3, x.setDays(1, 5));
        IS.dueThrow(INDEX, () -> x.setDays(2, 3));
        IS.dueThrow(INDEX, () -> x.setDays(-1, 0));
        IS.dueThrow(ARGUMENT, () -> x.setDays(0, 0));
        IS.dueThrow(ARGUMENT, () -> x.setDays(0, 10));
        IS.due(9, x.setDays(0, 9));
    }

    private static void reinstate() {
        IS.at("promise 7");
        Layertreaty x = Markets.onDays(100, 1, 2, 3, 4, 5, 6, 7);
        x.treaty('r', 'o', 0, 999, 0, 100);
        x.treaty('e', 'o', 0, 999, 0, 100);
        x.treaty('q', 'o', 0, 999, 0, 0);
        x.treaty('s', 'o', 0, 999, 1, 1);
        x.treaty('a', 'o', 0, 999, 0, 1);
        IS.due(100, x.taken(0));
        IS.due(0, x.reinstate(0, 5, 200, true));
        IS.due(600, x.taken(0));
        IS.due(5, x.reinstate(0, 2, 0, false));
        IS.due(300, x.taken(0));
        IS.due(2, x.reinstate(0, 0, 0, false));
        IS.due(0, x.reinstate(1, 3, 0, false));
        IS.dueThrow(INDEX, () -> x.reinstate(5, 0, 0, false));
        IS.dueThrow(INDEX, () -> x.reinstate(-1, 9, 0, false));
        IS.dueThrow(ARGUMENT, () -> x.reinstate(0, -1, 0, false));
        IS.dueThrow(ARGUMENT, () -> x.reinstate(0, 6, 0, false));
        IS.dueThrow(ARGUMENT, () -> x.reinstate(0, 0, -1, false));
        IS.dueThrow(ARGUMENT, () -> x.reinstate(0, 0, 201, false));
        IS.dueThrow(ARGUMENT, () -> x.reinstate(2, 0, 201, false));
        for (int i = 2; i < 5; i++) {
            int other = i;
            IS.dueThrow(UNSUPPORTED, () -> x.reinstate(other, 0, 0, false));
        }
    }

    private static void setPremium() {
        IS.at("promise 8");
        Layertreaty x = Markets.onDays(100, 1);
        x.treaty('r', 'o', 0, 999, 0, 100);
        x.treaty('q', 'o', 0, 999, 0, 0);
        x.reinstate(0, 1, 50, false);
        IS.due(0, x.setPremium(0, 1000000));
        IS.due(500000, x.owed(0));
        IS.due(1000000, x.setPremium(0, 7));
        IS.due(3, x.owed(0));
        IS.due(0, x.setPremium(1, 9));
        IS.due(9, x.setPremium(1, 0));
        IS.due(0, x.owed(1));
        IS.dueThrow(INDEX, () -> x.setPremium(2, 0));
        IS.dueThrow(INDEX, () -> x.setPremium(-1, -1));
        IS.dueThrow(ARGUMENT, () -> x.setPremium(0, -1));
        IS.dueThrow(ARGUMENT, () -> x.setPremium(0, 1000001));
        IS.due(7, x.setPremium(0, 0));
    }

    private static void share() {
        IS.at("promise 9");
        Layertreaty x = Markets.onDays(100, 1);
        x.treaty('q', 'o', 0, 999, 100, 0);
        x.treaty('q', 'o', 0, 999, 100, 0);
        IS.due(0, x.share(0, 4, 60));
        IS.due(0, x.share(0, 3, 40));
        IS.dueThrow(UNSUPPORTED, () -> x.share(0, 0, 1));
        IS.dueThrow(UNSUPPORTED, () -> x.share(0, 4, 61));
        IS.due(60, x.share(0, 4, 60));
        IS.due(0, x.share(1, 4, 100));
        IS.due(60, x.share(0, 4, 0));
        IS.due(0, x.share(0, 0, 60));
        IS.due(60, x.paid(0, 0));
        IS.dueThrow(INDEX, () -> x.share(2, 0, 0));
        IS.dueThrow(INDEX, () -> x.share(-1, 0, 0));
        IS.dueThrow(INDEX, () -> x.share(0, 5, 0));
        IS.dueThrow(INDEX, () -> x.share(0, -1, 101));
        IS.dueThrow(ARGUMENT, () -> x.share(0, 0, -1));
        IS.dueThrow(ARGUMENT, () -> x.share(0, 0, 101));
        IS.dueThrow(ARGUMENT, () -> x.share(0, 0, MOST));
    }

    private static void fail() {
        IS.at("promise 10");
        Layertreaty x = Markets.onDays(100, 1);
        x.treaty('q', 'o', 0, 999, 50, 0);
        x.share(0, 4, 50);
        IS.due(false, x.fail(4, true));
        IS.due(true, x.fail(4, true));
        IS.due(0, x.paid(0, 4));
        IS.due(true, x.fail(4, false));
        IS.due(false, x.fail(4, false));
        IS.due(25, x.paid(0, 4));
        IS.due(false, x.fail(0, true));
        IS.due(25, x.paid(0, 4));
        IS.dueThrow(INDEX, () -> x.fail(5, true));
        IS.dueThrow(INDEX, () -> x.fail(-1, false));
    }

    private static void handOn() {
        IS.at("promise 11");
        Layertreaty x = Markets.onDays(100, 1);
        x.treaty('q', 'o', 0, 999, 100, 0);
        x.share(0, 0, 100);
        IS.due(false, x.handOn(0, 1, 30, 50));
        IS.due(50, x.comes(1));
        IS.due(true, x.handOn(0, 4, 60, 50));
        IS.due(0, x.comes(1));
        IS.due(40, x.comes(4));
        IS.due(true, x.handOn(0, 1, 0, 0));
        IS.due(false, x.handOn(0, 1, 0, 0));
        IS.due(0, x.comes(1));
        IS.due(false, x.handOn(0, 1, 100, 1000000));
        IS.due(0, x.comes(1));
        IS.due(true, x.handOn(0, 1, 99, 1000000));
        IS.due(1, x.comes(1));
        IS.due(false, x.handOn(1, 0, 1000000, 1));
        IS.due(true, x.handOn(1, 0, 1000000, 1));
        IS.dueThrow(INDEX, () -> x.handOn(5, 0, 0, 0));
        IS.dueThrow(INDEX, () -> x.handOn(0, 5, 0, 0));
        IS.dueThrow(INDEX, () -> x.handOn(-1, -1, 0, 0));
        IS.dueThrow(INDEX, () -> x.handOn(0, -1, -1, 0));
        IS.dueThrow(ARGUMENT, () -> x.handOn(2, 2, 0, 0));
        IS.dueThrow(ARGUMENT, () -> x.handOn(0, 1, -1, 0));
        IS.dueThrow(ARGUMENT, () -> x.handOn(0, 1, 1000001, 0));
        IS.dueThrow(ARGUMENT, () -> x.handOn(0, 1, 0, -1));
        IS.dueThrow(ARGUMENT, () -> x.handOn(0, 1, 0, 1000001));
        IS.due(1, x.comes(1));
    }

    private static void rings() {
        IS.at("terms, rings of retrocession");
        Layertreaty x = Markets.onDays(100, 1);
        x.treaty('q', 'o', 0, 999, 100, 0);
        x.share(0, 0, 60);
        x.share(0, 1, 40);
        // Two that hand on all to one another: it grows until the limits stop it.
        x.handOn(0, 1, 0, 1000000);
        x.handOn(1, 0, 0, 999999);
        IS.due(60 + 999999, x.comes(0));
        IS.due(40 + 1000000, x.comes(1));
        IS.due(59, x.stays(0));
        IS.due(41, x.stays(1));
        // By 1 a round.
        x.handOn(0, 1, 60, 1000000);
        x.handOn(1, 0, 39, 1000000);
        IS.due(60 + 1000000, x.comes(0));
        IS.due(40 + 1000000, x.comes(1));
        // What would stay once it were there does not come by itself: the least that fits.
        x.handOn(1, 0, 40, 1000000);
        IS.due(60, x.comes(0));
        IS.due(40, x.comes(1));
        x.handOn(0, 1, 50, 1000000);
        x.handOn(1, 0, 60, 1000000);
        IS.due(60, x.comes(0));
        IS.due(50, x.comes(1));
        // A ring of five into which all comes at one place, and that stops at the least limit.
        Layertreaty y = Markets.onDays(100, 1);
        y.treaty('q', 'o', 0, 999, 100, 0);
        y.share(0, 2, 100);
        for (int i = 0; i < 5; i++) {
            y.handOn(i, (i + 1) % 5, 1, i == 4 ? 700 : 1000000);
        }
        IS.due(798, y.comes(2));
        IS.due(797, y.comes(3));
        IS.due(796, y.comes(4));
        IS.due(700, y.comes(0));
        IS.due(699, y.comes(1));
        IS.due(96, y.stays(4));
        IS.due(1, y.stays(0));
        IS.due(true, y.isSound());
        // Where nothing comes from outside nothing goes round.
        Layertreaty w = Markets.onDays(100, 1);
        w.handOn(0, 1, 0, 1000000);
        w.handOn(1, 0, 0, 1000000);
        IS.due(0, w.comes(0));
        IS.due(0, w.comes(1));
        // One that failed breaks the ring, but what is handed on to it still comes.
        y.fail(4, true);
        IS.due(100, y.comes(2));
        IS.due(98, y.comes(4));
        IS.due(98, y.stays(4));
        IS.due(0, y.comes(0));
        // Two rings side by side, one that rises and one that does not, the second one fed from outside.
        Layertreaty z = Markets.onDays(100, 1);
        z.treaty('q', 'o', 0, 999, 100, 0);
        z.share(0, 0, 10);
        z.share(0, 2, 20);
        z.share(0, 4, 30);
        z.handOn(0, 1, 0, 500);
        z.handOn(1, 0, 0, 400);
        z.handOn(2, 3, 5, 100);
        z.handOn(3, 2, 30, 100);
        z.handOn(4, 2, 10, 15);
        IS.due(410, z.comes(0));
        IS.due(410, z.comes(1));
        IS.due(35, z.comes(2));
        IS.due(30, z.comes(3));
        IS.due(30, z.comes(4));
        IS.due(15, z.stays(4));
        IS.due(true, z.isSound());
    }

    private static void commute() {
        IS.at("promise 12");
        Layertreaty x = Markets.onDays(100, 1, 2);
        x.treaty('q', 'o', 0, 999, 30, 0);
        x.treaty('r', 'o', 0, 999, 0, 50);
        IS.dueThrow(INDEX, () -> x.commute(2, 0));
        IS.dueThrow(INDEX, () -> x.commute(-1, -1));
        IS.dueThrow(ARGUMENT, () -> x.commute(0, -1));
        IS.dueThrow(ARGUMENT, () -> x.commute(0, 1000001));
        IS.due(60, x.commute(0, 1000000));
        IS.dueThrow(UNSUPPORTED, () -> x.commute(0, 0));
        IS.dueThrow(ARGUMENT, () -> x.commute(0, -1));
        IS.due(50, x.commute(1, 0));
    }

    private static void commutedStays() {
        IS.at("terms, commutation");
        Layertreaty x = Markets.onDays(100, 1, 2);
        x.treaty('r', 'o', 0, 99, 10, 50);
        x.reinstate(0, 1, 100, true);
        x.setPremium(0, 1000);
        x.share(0, 0, 50);
        x.treaty('e', 'o', 0, 99, 0, 1000);
        IS.due(990, x.owed(0));
        IS.due(100, x.taken(0));
        IS.due(100, x.taken(1));
        IS.due(100, x.commute(0, 7));
        // From then on the losses keep what it would take, and nothing that is told later changes what stays.
        IS.due(100, x.taken(0));
        IS.due(0, x.takenFrom(0, 0));
        IS.due(200, x.taken(1));
        IS.due(50, x.reinstated(0));
        IS.due(990, x.owed(0));
        IS.due(0, x.paid(0, 0));
        IS.due(0, x.comes(0));
        x.setAmount(0, 0);
        x.setPremium(0, 1);
        x.reinstate(0, 0, 0, false);
        x.setDays(0, 1);
        x.fail(0, true);
        IS.due(100, x.taken(0));
        IS.due(50, x.reinstated(0));
        IS.due(990, x.owed(0));
        IS.due(0, x.lost(0));
        IS.due(true, x.isSound());
        IS.due(100 + 990 - 100 - 7, x.net());
        // An event treaty that was commuted has no events.
        IS.due(100, x.commute(1, 0));
        IS.due(0, x.events(1, 0));
        IS.dueThrow(ELEMENT, () -> x.eventOf(1, 1));
        IS.due(true, x.isSame(1));
        IS.due(100, x.left(1));
    }

    private static void left() {
        IS.at("promise 13");
        Layertreaty x = Markets.onDays(100, 1, 2);
        IS.due(100, x.left(1));
        x.treaty('q', 'o', 2, 2, 99, 0);
        IS.due(100, x.left(0));
        IS.due(1, x.left(1));
        IS.dueThrow(INDEX, () -> x.left(2));
        IS.dueThrow(INDEX, () -> x.left(-1));
        IS.dueThrow(INDEX, () -> x.left(MOST));
    }

    private static void taken() {
        IS.at("promise 14");
        Layertreaty x = Markets.onDays(100, 1, 2);
        x.treaty('q', 'o', 0, 9, 25, 0);
        IS.due(50, x.taken(0));
        IS.dueThrow(INDEX, () -> x.taken(1));
        IS.dueThrow(INDEX, () -> x.taken(-1));
    }

    private static void takenFrom() {
        IS.at("promise 15");
        Layertreaty x = Markets.onDays(100, 1, 2);
        x.setAmount(1, 40);
        x.treaty('q', 'o', 0, 9, 25, 0);
        IS.due(25, x.takenFrom(0, 0));
        IS.due(10, x.takenFrom(0, 1));
        IS.dueThrow(INDEX, () -> x.takenFrom(1, 0));
        IS.dueThrow(INDEX, () -> x.takenFrom(0, 2));
        IS.dueThrow(INDEX, () -> x.takenFrom(0, -1));
        IS.dueThrow(INDEX, () -> x.takenFrom(-1, 0));
        x.commute(0, 0);
        IS.due(0, x.takenFrom(0, 0));
    }

    private static void limit() {
        IS.at("promise 16");
        Layertreaty x = Markets.onDays(100, 1, 9);
        x.treaty('r', 'o', 0, 99, 20, 1000);
        x.treaty('e', 'o', 0, 99, 5, 12);
        x.treaty('q', 'o', 0, 99, 0, 0);
        x.treaty('s', 'o', 0, 99, 1, 1);
        x.treaty('a', 'o', 0, 99, 0, 1);
        IS.due(840, x.limit(0));
        IS.due(0, x.limit(1));
        x.reinstate(0, 5, 0, false);
        x.reinstate(1, 2, 0, false);
        IS.due(5840, x.limit(0));
        IS.due(12, x.limit(1));
        for (int i = 2; i < 5; i++) {
            int other = i;
            IS.dueThrow(UNSUPPORTED, () -> x.limit(other));
            x.commute(other, 0);
            IS.dueThrow(UNSUPPORTED, () -> x.limit(other));
        }
        IS.dueThrow(INDEX, () -> x.limit(5));
        IS.dueThrow(INDEX, () -> x.limit(-1));
        x.commute(1, 0);
        IS.dueThrow(STATE, () -> x.limit(1));
        Layertreaty y = Markets.market(1);
        y.treaty('e', 'o', 0, 99, 0, 1000000);
        y.reinstate(0, 5, 0, false);
        IS.due(6000000, y.limit(0));
    }

    private static void reinstated() {
        IS.at("promise 17");
        Layertreaty x = Markets.onDays(70, 1, 2, 3, 4);
        x.treaty('r', 'o', 0, 99, 0, 100);
        x.treaty('q', 'o', 0, 99, 0, 0);
        IS.due(0, x.reinstated(0));
        x.reinstate(0, 1, 0, false);
        IS.due(100, x.reinstated(0));
        IS.due(200, x.taken(0));
        x.reinstate(0, 2, 0, false);
        IS.due(200, x.reinstated(0));
        x.reinstate(0, 5, 0, false);
        IS.due(280, x.reinstated(0));
        IS.due(0, x.reinstated(1));
        IS.dueThrow(INDEX, () -> x.reinstated(2));
        IS.dueThrow(INDEX, () -> x.reinstated(-1));
    }

    private static void owed() {
        IS.at("promise 18");
        Layertreaty x = Markets.onDays(70, 11, 22, 33);
        x.treaty('r', 'o', 10, 29, 0, 100);
        x.reinstate(0, 1, 99, false);
        x.setPremium(0, 77);
        // 70 cost 77 * 70 * 99 / 10000 = 53.361, the next 30 only 22.869; of the third loss it covers nothing.
        IS.due(53 + 22, x.owed(0));
        x.reinstate(0, 1, 99, true);
        // 19 days of 20, then 8 of 20: 50.35 and 8.8, rounded down a second time.
        IS.due(50 + 8, x.owed(0));
        IS.dueThrow(INDEX, () -> x.owed(1));
        IS.dueThrow(INDEX, () -> x.owed(-1));
        // A loss behind the last day costs nothing by time, and one ahead of the first day more than all.
        Layertreaty y = new Layertreaty();
        y.policy(1000, 0, 10, 99);
        y.loss(0, 20, 30, 50);
        y.loss(0, 21, 30, 50);
        y.treaty('r', 'a', 10, 20, 0, 50);
        y.treaty('r', 'c', 30, 39, 0, 100);
        y.setPremium(0, 1100);
        y.setPremium(1, 1000);
        y.reinstate(0, 2, 100, true);
        y.reinstate(1, 1, 100, true);
        IS.due(100, y.owed(0));
        IS.due(100, y.reinstated(0));
        IS.due(0, y.owed(1));
        y.reinstate(0, 0, 100, true);
        y.setAmount(0, 0);
        y.setAmount(1, 150);
        IS.due(100, y.taken(1));
        IS.due(1000 * 19 / 10, y.owed(1));
        // An event costs once, by its first day.
        Layertreaty z = Markets.onDays(30, 5, 6, 7);
        z.treaty('e', 'o', 0, 9, 40, 45);
        z.setPremium(0, 1000);
        z.reinstate(0, 1, 100, false);
        IS.due(1000, z.owed(0));
        z.reinstate(0, 1, 100, true);
        IS.due(500, z.owed(0));
        // The greatest numbers.
        Layertreaty w = Markets.market(1);
        w.loss(0, 0, 0, 1000000);
        w.treaty('r', 'c', 0, 0, 0, 1000000);
        w.setPremium(0, 1000000);
        w.reinstate(0, 5, 200, true);
        IS.due(2000000, w.owed(0));
        w.treaty('r', 'o', 0, 999, 0, 1000000);
        w.commute(0, 0);
        w.setPremium(1, 1000000);
        w.reinstate(1, 5, 200, true);
        IS.due(2000000, w.owed(1));
        Layertreaty v = Markets.market(1);
        v.loss(0, 0, 999, 1000000);
        v.treaty('r', 'c', 999, 999, 0, 1000000);
        v.setPremium(0, 1000000);
        v.reinstate(0, 5, 200, true);
        IS.due(2000000000L, v.owed(0));
    }

    private static void events() {
        IS.at("promise 19");
        Layertreaty x = Markets.onDays(15, 1, 3, 4, 6, 6, 9);
        x.setAmount(5, 9);
        x.loss(3, 500, 500, 1);
        x.loss(2, 500, 500, 0);
        x.treaty('e', 'o', 0, 999, 10, 20);
        x.treaty('q', 'o', 0, 999, 0, 0);
        IS.due(4, x.events(0, 0));
        IS.due(0, x.events(0, 1));
        IS.due(0, x.events(0, 2));
        IS.due(1, x.events(0, 3));
        IS.dueThrow(INDEX, () -> x.events(2, 0));
        IS.dueThrow(INDEX, () -> x.events(-1, 9));
        IS.dueThrow(ARGUMENT, () -> x.events(0, 4));
        IS.dueThrow(ARGUMENT, () -> x.events(0, -1));
        IS.dueThrow(ARGUMENT, () -> x.events(1, 4));
        IS.dueThrow(UNSUPPORTED, () -> x.events(1, 0));
        Layertreaty y = Markets.onDays(1, 7, 7);
        y.treaty('e', 'o', 0, 999, 0, 1);
        IS.due(1, y.events(0, 0));
        IS.due(1, y.taken(0));
        y.setAmount(0, 0);
        IS.due(1, y.events(0, 0));
        IS.due(1, y.takenFrom(0, 1));
        // Days on which nothing is left, or that the treaty does not cover, are in no event and keep none apart.
        x.treaty('q', 'o', 3, 3, 100, 0);
        x.setDays(0, 9);
        IS.due(2, x.events(0, 0));
    }

    private static void eventsByZoneAndTime() {
        IS.at("terms, events are served");
        // Zones by rising numbers, in each by time: zone 0 first, though its event is later than that of zone 2.
        Layertreaty x = Markets.market(1000);
        x.loss(2, 1, 1, 50);
        x.loss(0, 9, 9, 50);
        x.loss(0, 4, 4, 20);
        x.treaty('e', 'o', 0, 999, 0, 60);
        IS.due(20, x.takenFrom(0, 2));
        IS.due(40, x.takenFrom(0, 1));
        IS.due(0, x.takenFrom(0, 0));
        IS.due(0, x.limit(0));
        // Taken is what is above a and at most b, divided by what is left of each, the remainder by 1 each.
        Layertreaty y = Markets.onDays(10, 2, 3, 1);
        y.treaty('e', 'o', 0, 999, 5, 20);
        IS.due(7, y.takenFrom(0, 2));
        IS.due(7, y.takenFrom(0, 0));
        IS.due(6, y.takenFrom(0, 1));
        Layertreaty w = Markets.onDays(10, 1, 1, 1);
        w.setAmount(1, 25);
        w.treaty('e', 'o', 0, 999, 5, 20);
        // 40 of 45, but at most 20: 4.44, 11.11, 4.44, and 1 more for the first one.
        IS.due(5, w.takenFrom(0, 0));
        IS.due(11, w.takenFrom(0, 1));
        IS.due(4, w.takenFrom(0, 2));
        // A second event treaty finds what the first one left: 7 of 5, 14 and 6 is 1.4, 3.92 and 1.68.
        w.treaty('e', 'o', 0, 999, 0, 7);
        IS.due(2, w.takenFrom(1, 0));
        IS.due(4, w.takenFrom(1, 1));
        IS.due(1, w.takenFrom(1, 2));
        // The limit is no reason to lay events otherwise.
        Layertreaty z = Markets.onDays(30, 1, 2);
        z.treaty('e', 'o', 0, 999, 10, 20);
        IS.due(2, z.events(0, 0));
        IS.due(20, z.takenFrom(0, 0));
        IS.due(0, z.takenFrom(0, 1));
    }

    private static void eventTies() {
        IS.at("terms, of several layings");
        // Greatest first: of 10, 10, 1, 10 on days 1 to 4, within two days, 10 above and at most 5.
        Layertreaty x = Markets.onDays(10, 1, 2, 3, 4);
        x.setAmount(2, 1);
        x.treaty('e', 'o', 0, 999, 10, 5);
        x.setDays(0, 2);
        // {1,2} 5, {3,4} 1: 6 in two events; {1}, {2,3}, {4}: 1.
        IS.due(2, x.events(0, 0));
        IS.due(0, x.eventOf(0, 1));
        IS.due(1, x.eventOf(0, 2));
        // Fewer events: nothing is above, so as few as possible, and the first one ends last.
        Layertreaty y = Markets.onDays(1, 1, 2, 3, 4);
        y.treaty('e', 'o', 0, 999, 10, 5);
        IS.due(2, y.events(0, 0));
        IS.due(0, y.eventOf(0, 2));
        IS.due(1, y.eventOf(0, 3));
        // Then the second one: seven days by threes is 3, 3, 1.
        Layertreaty z = Markets.onDays(1, 1, 2, 3, 4, 5, 6, 7);
        z.treaty('e', 'o', 0, 999, 10, 5);
        IS.due(3, z.events(0, 0));
        IS.due(1, z.eventOf(0, 5));
        IS.due(2, z.eventOf(0, 6));
        // More is better than fewer: 15, 15 by themselves bring 5 each, together 20.
        Layertreaty w = Markets.onDays(15, 1, 2);
        w.treaty('e', 'o', 0, 999, 10, 8);
        IS.due(2, w.events(0, 0));
        IS.due(8, w.taken(0));
        w.reinstate(0, 1, 0, false);
        IS.due(10, w.taken(0));
        IS.due(5, w.takenFrom(0, 1));
        // Fewer events count ahead of a first one that ends later: {2}, {4, 5, 6}, {8, 9} brings 19, 11 and 20,
        // {2, 4}, {5}, {6, 8}, {9} brings 20, 0, 10 and 20.
        Layertreaty u = Markets.onDays(29, 2, 4, 5, 6, 8, 9);
        u.setAmount(1, 5);
        u.setAmount(2, 6);
        u.setAmount(3, 10);
        u.setAmount(4, 10);
        u.setAmount(5, 40);
        u.treaty('e', 'o', 0, 999, 10, 20);
        u.reinstate(0, 5, 0, false);
        IS.due(50, u.taken(0));
        IS.due(3, u.events(0, 0));
        IS.due(1, u.eventOf(0, 1));
        IS.due(1, u.eventOf(0, 3));
        IS.due(true, u.isSame(0));
        // All thirty days, each its own event, or all by nines.
        Layertreaty v = Markets.market(1000);
        for (int i = 0; i < 30; i++) {
            v.loss(0, i, i, 20);
        }
        v.treaty('e', 'o', 0, 999, 10, 10);
        v.setDays(0, 9);
        IS.due(30, v.events(0, 0));
        IS.due(29, v.eventOf(0, 29));
        IS.due(true, v.isSame(0));
        v.treaty('e', 'o', 0, 999, 1000, 10);
        v.setDays(1, 9);
        IS.due(4, v.events(1, 0));
        IS.due(3, v.eventOf(1, 29));
    }

    private static void eventOf() {
        IS.at("promise 20");
        Layertreaty x = Markets.onDays(15, 1, 3, 4, 6);
        x.loss(1, 2, 2, 15);
        x.loss(0, 5, 5, 0);
        x.loss(0, 100, 100, 15);
        x.treaty('e', 'o', 0, 99, 10, 20);
        x.treaty('q', 'o', 0, 999, 0, 0);
        x.treaty('e', 'o', 0, 99, 0, 1);
        // {1, 3} 20 and {4, 6} 20; in zone 1 a row of its own.
        IS.due(0, x.eventOf(0, 0));
        IS.due(0, x.eventOf(0, 1));
        IS.due(1, x.eventOf(0, 2));
        IS.due(1, x.eventOf(0, 3));
        IS.due(0, x.eventOf(0, 4));
        IS.dueThrow(ELEMENT, () -> x.eventOf(0, 5));
        IS.dueThrow(ELEMENT, () -> x.eventOf(0, 6));
        IS.dueThrow(INDEX, () -> x.eventOf(3, 0));
        IS.dueThrow(INDEX, () -> x.eventOf(-1, 0));
        IS.dueThrow(INDEX, () -> x.eventOf(0, 7));
        IS.dueThrow(INDEX, () -> x.eventOf(1, -1));
        IS.dueThrow(UNSUPPORTED, () -> x.eventOf(1, 0));
        IS.dueThrow(UNSUPPORTED, () -> x.eventOf(1, 5));
        // Of a loss that a treaty ahead took wholly nothing is left.
        x.treaty('q', 'o', 1, 1, 100, 0);
        IS.dueThrow(ELEMENT, () -> x.eventOf(0, 0));
        IS.due(0, x.eventOf(0, 1));
    }

    private static void isSame() {
        IS.at("promise 21");
        Layertreaty x = Markets.market(1000);
        x.treaty('e', 'o', 0, 999, 10, 20);
        x.treaty('q', 'o', 0, 999, 0, 0);
        IS.due(true, x.isSame(0));
        int[] amounts = {15, 3, 22, 31, 7, 1, 40, 12, 12, 12, 9, 28};
        for (int i = 0; i < amounts.length; i++) {
            x.loss(2, i + i / 3, i + i / 3, amounts[i]);
            for (int days = 1; days <= 9; days++) {
                x.setDays(0, days);
                IS.due(true, x.isSame(0));
            }
        }
        long taken = x.taken(0);
        // Where nothing is taken, too.
        x.treaty('e', 'o', 0, 999, 1000, 20);
        IS.due(true, x.isSame(2));
        IS.due(true, x.isSame(0));
        IS.due(taken, x.taken(0));
        x.loss(2, 20, 20, 14);
        IS.due(true, x.isSame(0));
        IS.dueThrow(INDEX, () -> x.isSame(3));
        IS.dueThrow(INDEX, () -> x.isSame(-1));
        IS.dueThrow(UNSUPPORTED, () -> x.isSame(1));
    }

    private static void paid() {
        IS.at("promise 22");
        Layertreaty x = Markets.onDays(99, 1, 2);
        x.treaty('q', 'o', 0, 999, 100, 0);
        x.share(0, 0, 50);
        x.share(0, 4, 1);
        // Rounded down for each loss: twice 49, and twice nothing.
        IS.due(98, x.paid(0, 0));
        IS.due(0, x.paid(0, 4));
        IS.due(0, x.paid(0, 1));
        IS.due(100, x.net());
        x.fail(0, true);
        IS.due(0, x.paid(0, 0));
        IS.dueThrow(INDEX, () -> x.paid(1, 0));
        IS.dueThrow(INDEX, () -> x.paid(0, 5));
        IS.dueThrow(INDEX, () -> x.paid(0, -1));
        IS.dueThrow(INDEX, () -> x.paid(-1, 0));
    }

    private static void lost() {
        IS.at("promise 23");
        Layertreaty x = Markets.onDays(99, 1, 2);
        x.treaty('q', 'o', 0, 999, 50, 0);
        x.treaty('q', 'o', 0, 999, 100, 0);
        x.share(0, 3, 50);
        x.share(1, 3, 100);
        IS.due(0, x.lost(3));
        x.fail(3, true);
        IS.due(24 + 24 + 50 + 50, x.lost(3));
        IS.due(0, x.lost(0));
        x.commute(1, 0);
        IS.due(48, x.lost(3));
        IS.dueThrow(INDEX, () -> x.lost(5));
        IS.dueThrow(INDEX, () -> x.lost(-1));
    }

    private static void comesAndStays() {
        IS.at("promises 24 and 25");
        Layertreaty x = Markets.onDays(100, 1, 2);
        x.treaty('q', 'o', 0, 999, 50, 0);
        x.treaty('q', 'o', 0, 999, 20, 0);
        x.share(0, 0, 100);
        x.share(1, 0, 50);
        x.share(1, 1, 30);
        IS.due(110, x.comes(0));
        IS.due(110, x.stays(0));
        IS.due(6, x.comes(1));
        x.handOn(0, 1, 100, 9);
        x.handOn(2, 1, 0, 9);
        IS.due(15, x.comes(1));
        IS.due(101, x.stays(0));
        x.handOn(1, 2, 1, 1000);
        IS.due(23, x.comes(2));
        IS.due(9 + 6 + 9, x.comes(1));
        IS.due(23, x.comes(1) - 1);
        x.fail(0, true);
        IS.due(0, x.comes(0));
        IS.due(0, x.stays(0));
        x.fail(2, true);
        IS.due(5, x.stays(2));
        IS.due(1, x.stays(1));
        IS.dueThrow(INDEX, () -> x.comes(5));
        IS.dueThrow(INDEX, () -> x.comes(-1));
        IS.dueThrow(INDEX, () -> x.stays(5));
        IS.dueThrow(INDEX, () -> x.stays(-1));
    }

    private static void net() {
        IS.at("promise 26");
        Layertreaty x = Markets.onDays(1000, 1, 2);
        IS.due(2000, x.net());
        x.treaty('q', 'o', 0, 99, 40, 0);
        IS.due(2000, x.net());
        x.share(0, 0, 25);
        x.share(0, 1, 50);
        IS.due(1200 + 200, x.net());
        x.fail(1, true);
        IS.due(1200 + 200 + 400, x.net());
        x.treaty('r', 'o', 0, 99, 0, 500);
        x.share(1, 2, 100);
        IS.due(1200 + 600 - 500, x.net());
        x.setPremium(1, 300);
        x.reinstate(1, 1, 50, false);
        IS.due(1200 + 600 - 1000 + 150, x.net());
        // What one hands on is not the cedent's.
        x.handOn(2, 3, 0, 1000);
        IS.due(950, x.net());
        x.commute(0, 11);
        IS.due(2000 - 1000 + 150 - 800 - 11, x.net());
        x.commute(1, 1000000);
        IS.due(2000 + 150 - 800 - 11 - 1000 - 1000000, x.net());
        // Scenarios are no losses of this market.
        x.scenario(1, 1);
        x.damage(0, 0, 100);
        x.scenarioNet(0);
        IS.due(2150 - 1811 - 1000000, x.net());
    }

    private static void scenario() {
        IS.at("promise 27");
        Layertreaty x = new Layertreaty();
        IS.due(0, x.scenario(0, 1));
        IS.due(1, x.scenario(999, 9));
        IS.dueThrow(ARGUMENT, () -> x.scenario(-1, 1));
        IS.dueThrow(ARGUMENT, () -> x.scenario(1000, 1));
        IS.dueThrow(ARGUMENT, () -> x.scenario(0, 0));
        IS.dueThrow(ARGUMENT, () -> x.scenario(0, 10));
        for (int i = 2; i < 12; i++) {
            IS.due(i, x.scenario(5, 5));
        }
        IS.dueThrow(STATE, () -> x.scenario(5, 5));
        IS.dueThrow(ARGUMENT, () -> x.scenario(5, 0));
        x.policy(1000, 0, 0, 999);
        IS.due(0, x.scenarioNet(0));
    }

    private static void damage() {
        IS.at("promise 28");
        Layertreaty x = Markets.market(1000);
        x.scenario(5, 5);
        IS.due(0, x.damage(0, 3, 100));
        IS.due(100, x.damage(0, 3, 1));
        IS.due(0, x.damage(0, 0, 2));
        IS.due(1, x.damage(0, 3, 0));
        IS.due(20, x.scenarioNet(0));
        IS.dueThrow(INDEX, () -> x.damage(1, 0, 0));
        IS.dueThrow(INDEX, () -> x.damage(-1, 9, 0));
        IS.dueThrow(ARGUMENT, () -> x.damage(0, -1, 0));
        IS.dueThrow(ARGUMENT, () -> x.damage(0, 4, 0));
        IS.dueThrow(ARGUMENT, () -> x.damage(0, 0, -1));
        IS.dueThrow(ARGUMENT, () -> x.damage(0, 0, 101));
        IS.due(2, x.damage(0, 0, 2));
    }

    private static void scenarioNet() {
        IS.at("promise 29");
        Layertreaty x = new Layertreaty();
        x.policy(999, 0, 10, 20);
        x.policy(999, 0, 20, 30);
        x.policy(50, 1, 20, 20);
        x.policy(1000, 2, 0, 999);
        x.scenario(20, 1);
        x.damage(0, 0, 50);
        x.damage(0, 1, 1);
        // 499.5 is rounded down for each; 0.5 is nothing.
        IS.due(998, x.scenarioNet(0));
        x.damage(0, 2, 10);
        IS.due(1098, x.scenarioNet(0));
        // The treaties are as new for it, whatever other losses took; told on this day, of a policy's first day.
        x.loss(3, 20, 20, 1000);
        x.treaty('r', 'c', 20, 20, 99, 400);
        IS.due(1098 - 400, x.scenarioNet(0));
        IS.due(1098 - 400, x.scenarioNet(0));
        IS.due(400, x.taken(0));
        x.reinstate(0, 5, 100, false);
        IS.due(1098 - 400 - 400 - 1, x.scenarioNet(0));
        x.treaty('q', 'a', 10, 19, 50, 0);
        IS.due(297 - 49, x.scenarioNet(0));
        x.commute(1, 1000);
        IS.due(297, x.scenarioNet(0));
        x.treaty('e', 'o', 20, 20, 150, 1000);
        IS.due(297 - 48, x.scenarioNet(0));
        x.treaty('a', 'o', 20, 20, 100, 1000);
        IS.due(100, x.scenarioNet(0));
        IS.dueThrow(INDEX, () -> x.scenarioNet(1));
        IS.dueThrow(INDEX, () -> x.scenarioNet(-1));
        Layertreaty z = new Layertreaty();
        z.policy(100, 0, 10, 20);
        z.policy(100, 0, 0, 9);
        z.policy(100, 0, 21, 999);
        z.scenario(10, 1);
        z.scenario(20, 1);
        z.damage(0, 0, 1);
        z.damage(1, 0, 100);
        // Only the first one is in force.
        IS.due(1, z.scenarioNet(0));
        IS.due(100, z.scenarioNet(1));
        // A limit goes by rising numbers of policies.
        Layertreaty y = new Layertreaty();
        y.policy(100, 0, 0, 9);
        y.policy(90, 0, 0, 9);
        y.scenario(9, 1);
        y.damage(0, 0, 100);
        y.treaty('r', 'o', 0, 9, 50, 60);
        y.treaty('s', 'o', 0, 9, 95, 1);
        // The first one leaves 50, of which s takes 5 hundredths; the second one 80, as 10 are left of the limit.
        IS.due(48 + 80, y.scenarioNet(0));
    }

    private static void tail() {
        IS.at("promise 30");
        Layertreaty x = Markets.market(1000);
        IS.dueThrow(ELEMENT, () -> x.tail(0));
        IS.dueThrow(ARGUMENT, () -> x.tail(-1));
        IS.dueThrow(ARGUMENT, () -> x.tail(100));
        int[] weights = {3, 1, 1, 4, 1};
        int[] damages = {10, 50, 0, 50, 90};
        for (int i = 0; i < 5; i++) {
            x.scenario(i, weights[i]);
            x.damage(i, 1, damages[i]);
        }
        // 900 with 1 of 10, 500 with 5, 100 with 3, 0 with 1.
        IS.due(900, x.tail(0));
        IS.due(900, x.tail(9));
        IS.due(500, x.tail(10));
        IS.due(500, x.tail(59));
        IS.due(100, x.tail(60));
        IS.due(100, x.tail(89));
        IS.due(0, x.tail(90));
        IS.due(0, x.tail(99));
        IS.dueThrow(ARGUMENT, () -> x.tail(MOST));
        Layertreaty y = Markets.market(1);
        y.scenario(0, 9);
        IS.due(0, y.tail(0));
        IS.due(0, y.tail(99));
    }

    private static void numbers() {
        IS.at("promises 31 to 33");
        Layertreaty x = Markets.onDays(1000000, 1);
        IS.due(1, x.losses());
        IS.due(0, x.treaties());
        IS.due(1000000, x.allLosses());
        for (int i = 1; i < 30; i++) {
            x.loss(0, 1, 1, 1000000);
        }
        x.treaty('q', 'o', 0, 999, 100, 0);
        x.treaty('q', 'o', 0, 999, 100, 0);
        IS.due(30, x.losses());
        IS.due(2, x.treaties());
        IS.due(30000000, x.allLosses());
        x.commute(0, 0);
        IS.due(2, x.treaties());
    }

    private static void leftShare() {
        IS.at("promise 34");
        Layertreaty x = Markets.market(1000);
        IS.dueThrow(ARITHMETIC, () -> x.leftShare());
        x.loss(0, 1, 1, 0);
        IS.dueThrow(ARITHMETIC, () -> x.leftShare());
        x.loss(0, 1, 1, 30);
        IS.due(1.0f, x.leftShare());
        x.treaty('r', 'o', 0, 999, 10, 100);
        IS.due(10f / 30f, x.leftShare());
        x.treaty('q', 'o', 0, 999, 100, 0);
        IS.due(0.0f, x.leftShare());
        // Sums that a float can't hold are converted by themselves, and only then divided.
        Layertreaty y = Markets.market(1);
        for (int i = 0; i < 29; i++) {
            y.loss(0, 1, 1, 999999);
        }
        y.treaty('r', 'o', 0, 999, 0, 7);
        IS.due((float) 28999964L / (float) 28999971L, y.leftShare());
    }

    private static void meanNet() {
        IS.at("promise 35");
        Layertreaty x = Markets.market(1000);
        IS.dueThrow(ARITHMETIC, () -> x.meanNet());
        x.scenario(1, 2);
        IS.due(0.0, x.meanNet());
        x.damage(0, 0, 10);
        x.scenario(2, 5);
        x.damage(1, 1, 33);
        IS.due((2.0 * 100 + 5.0 * 330) / 7.0, x.meanNet());
        x.treaty('r', 'o', 2, 2, 0, 29);
        IS.due((2.0 * 100 + 5.0 * 301) / 7.0, x.meanNet());
    }

    private static void isSound() {
        IS.at("promise 36");
        Layertreaty x = Markets.onDays(777, 1, 2, 3, 5, 8, 13, 21, 34);
        IS.due(true, x.isSound());
        x.treaty('q', 'o', 0, 999, 33, 0);
        x.treaty('s', 'a', 0, 999, 123, 3);
        x.treaty('r', 'c', 0, 999, 100, 150);
        x.treaty('e', 'o', 0, 999, 10, 100);
        x.treaty('a', 'o', 0, 999, 11, 333);
        IS.due(true, x.isSound());
        x.share(0, 0, 33);
        x.share(3, 1, 67);
        x.handOn(0, 1, 0, 1000000);
        x.handOn(1, 0, 0, 1000000);
        IS.due(true, x.isSound());
        x.commute(2, 5);
        x.reinstate(2, 0, 0, false);
        IS.due(true, x.isSound());
    }

    private static void throwsChangeNothing() {
        IS.at("terms, an exception changes nothing");
        Layertreaty x = Markets.onDays(100, 1);
        x.treaty('r', 'o', 0, 99, 0, 50);
        x.reinstate(0, 1, 100, false);
        x.setPremium(0, 100);
        x.share(0, 0, 70);
        IS.dueThrow(ARGUMENT, () -> x.reinstate(0, 2, 201, true));
        IS.dueThrow(ARGUMENT, () -> x.loss(0, 1, 0, 5));
        IS.dueThrow(ARGUMENT, () -> x.commute(0, -1));
        IS.dueThrow(UNSUPPORTED, () -> x.share(0, 1, 31));
        IS.dueThrow(ARGUMENT, () -> x.handOn(0, 1, 0, 1000001));
        IS.dueThrow(ARGUMENT, () -> x.treaty('q', 'o', 0, 99, 101, 1));
        IS.due(50, x.taken(0));
        IS.due(50, x.limit(0));
        IS.due(100, x.owed(0));
        IS.due(35, x.comes(0));
        IS.due(0, x.comes(1));
        IS.due(0, x.share(0, 1, 0));
        IS.due(1, x.losses());
        IS.due(1, x.treaties());
        IS.due(1, x.reinstate(0, 1, 100, false));
    }
}
