import java.util.NoSuchElementException;

/** The edges that the document names of events: how they are laid, served and divided, and what is asked of them. */
final class EventEdgesTest {
    private static final Class<NoSuchElementException> ELEMENT = NoSuchElementException.class;
    private static final Checks IS = new Checks();

    public static void main(String[] args) {
        IS.runAll(EventEdgesTest.class);
    }

    /** An event treaty for all days, with this number of days and as many reinstatements as there may be. */
    private static Layertreaty laid(Layertreaty x, int days, int a, int b) {
        int treaty = x.treaty('e', 'o', 0, 999, a, b);
        x.setDays(treaty, days);
        x.reinstate(treaty, 5, 0, false);
        return x;
    }

    /** In which events the losses are, a digit each. */
    private static void laying(String due, Layertreaty x) {
        StringBuilder is = new StringBuilder();
        int events = 0;
        for (int i = 0; i < due.length(); i++) {
            is.append(x.eventOf(0, i));
            events = Math.max(events, due.charAt(i) - '0' + 1);
        }
        IS.due(due, is.toString());
        IS.due(events, x.events(0, 0));
        IS.due(true, x.isSame(0));
        IS.due(true, x.isSound());
    }

    // ---- what is taken from an event ----

    private static void takes(long due, int a, int b, int sum) {
        // Two losses of one day, that can't be laid apart.
        Layertreaty x = Markets.onDays(0, 5, 5);
        x.setAmount(0, sum / 2);
        x.setAmount(1, sum - sum / 2);
        x.treaty('e', 'o', 0, 999, a, b);
        IS.due(due, x.taken(0));
        IS.due(b - due, x.limit(0));
    }

    static void aboveA() {
        IS.at("e takes what is above a");
        takes(0, 100, 60, 99);
        takes(0, 100, 60, 100);
        takes(1, 100, 60, 101);
        takes(0, 1000000, 60, 1000000);
        takes(1, 1000000, 60, 1000001);
        takes(0, 0, 60, 0);
        takes(1, 0, 60, 1);
    }

    static void atMostB() {
        IS.at("e: but at most b");
        takes(59, 100, 60, 159);
        takes(60, 100, 60, 160);
        takes(60, 100, 60, 161);
        takes(1, 0, 1, 2000000);
        takes(1000000, 0, 1000000, 2000000);
        takes(1000000, 1000000, 1000000, 2000000);
        takes(999999, 1000000, 1000000, 1999999);
    }

    // ---- which days are laid ----

    static void onlyDaysOnWhichSomethingIsLeft() {
        IS.at("all losses of which something is left");
        Layertreaty x = laid(Markets.daily(10, 0, 10), 3, 15, 100);
        // A loss of nothing is in no event, and keeps none apart.
        IS.due(0, x.eventOf(0, 0));
        IS.dueThrow(ELEMENT, () -> x.eventOf(0, 1));
        IS.due(0, x.eventOf(0, 2));
        IS.due(5, x.taken(0));
        IS.due(3, x.takenFrom(0, 0));
        IS.due(0, x.takenFrom(0, 1));
        IS.due(2, x.takenFrom(0, 2));
        x.setAmount(1, 1);
        IS.due(0, x.eventOf(0, 1));
        IS.due(6, x.taken(0));
    }

    static void onlyDaysThatTheTreatyCovers() {
        IS.at("all losses that each covers");
        Layertreaty x = Markets.daily(10, 10, 10, 10);
        x.treaty('e', 'o', 2, 3, 5, 100);
        IS.dueThrow(ELEMENT, () -> x.eventOf(0, 0));
        IS.due(0, x.eventOf(0, 1));
        IS.due(0, x.eventOf(0, 2));
        IS.dueThrow(ELEMENT, () -> x.eventOf(0, 3));
        IS.due(15, x.taken(0));
    }

    static void whatTreatiesAheadHaveLeft() {
        IS.at("an event's sum is what is left of its losses");
        Layertreaty x = Markets.daily(10, 10);
        x.treaty('e', 'o', 0, 999, 15, 100);
        IS.due(5, x.taken(0));
        x.treaty('q', 'o', 1, 1, 50, 0);
        IS.due(0, x.taken(0));
        IS.due(1, x.events(0, 0));
        // Wholly taken: the day is not there.
        x.treaty('q', 'o', 1, 1, 100, 0);
        IS.dueThrow(ELEMENT, () -> x.eventOf(0, 0));
        IS.due(0, x.eventOf(0, 1));
        // An e ahead may take all as well.
        Layertreaty y = Markets.daily(10, 20);
        y.treaty('e', 'o', 1, 1, 0, 10);
        y.treaty('e', 'o', 0, 999, 0, 15);
        IS.due(10, y.taken(0));
        IS.dueThrow(ELEMENT, () -> y.eventOf(1, 0));
        IS.due(0, y.eventOf(1, 1));
        IS.due(15, y.taken(1));
        // Behind it one of which nothing is left for any.
        y.treaty('e', 'o', 0, 999, 0, 5);
        y.treaty('e', 'o', 0, 999, 0, 5);
        IS.due(5, y.taken(2));
        IS.due(0, y.taken(3));
        IS.due(0, y.events(3, 0));
        IS.due(5, y.limit(3));
    }

    static void noLosses() {
        IS.at("a zone without such days has no events");
        Layertreaty x = laid(Markets.daily(0), 3, 0, 10);
        for (int zone = 0; zone < 4; zone++) {
            IS.due(0, x.events(0, zone));
        }
        IS.due(true, x.isSame(0));
        IS.due(0, x.taken(0));
        x.setAmount(0, 1);
        IS.due(1, x.events(0, 0));
        IS.due(0, x.events(0, 1));
    }

    static void zonesByThemselves() {
        IS.at("for each zone: the days are laid into events");
        Layertreaty x = Markets.market(1000);
        for (int zone = 3; zone >= 0; zone--) {
            x.loss(zone, 5, 5, 10);
            x.loss(zone, 6, 6, 10);
            x.loss(zone, 500, 500, 10);
        }
        x.treaty('e', 'o', 0, 999, 15, 100);
        for (int zone = 0; zone < 4; zone++) {
            IS.due(2, x.events(0, zone));
        }
        for (int loss = 0; loss < 12; loss++) {
            IS.due(loss % 3 / 2, x.eventOf(0, loss));
            IS.due(loss % 3 == 0 ? 3 : loss % 3 == 1 ? 2 : 0, x.takenFrom(0, loss));
        }
        IS.due(20, x.taken(0));
        IS.due(true, x.isSame(0));
    }

    // ---- how long an event is ----

    private static void together(boolean due, int days, int first, int last) {
        Layertreaty x = laid(Markets.onDays(10, first, last), days, 10, 10);
        IS.due(due ? 1 : 2, x.events(0, 0));
        IS.due(due ? 0 : 1, x.eventOf(0, 1));
        IS.due(due ? 10 : 0, x.taken(0));
    }

    static void lessThanTheNumberOfDays() {
        IS.at("the last day is less than the treaty's number of days behind the first one");
        for (int days = 1; days <= 9; days++) {
            for (int first : new int[] {0, 1, 500, 990}) {
                together(true, days, first, first);
                together(true, days, first, first + days - 1);
                together(false, days, first, first + days);
            }
        }
        together(true, 9, 991, 999);
        together(false, 8, 991, 999);
        together(false, 9, 0, 999);
    }

    static void threeDaysAtFirst() {
        IS.at("the number of days, 3 at first");
        Layertreaty x = Markets.onDays(10, 1, 3);
        x.treaty('e', 'o', 0, 999, 10, 10);
        IS.due(1, x.events(0, 0));
        Layertreaty y = Markets.onDays(10, 1, 4);
        y.treaty('e', 'o', 0, 999, 10, 10);
        IS.due(2, y.events(0, 0));
    }

    static void noChainOfDays() {
        IS.at("from the first day of the event, not from the day before");
        laying("001", laid(Markets.onDays(10, 1, 3, 5), 3, 10, 10));
        laying("0011", laid(Markets.onDays(10, 1, 3, 5, 7), 3, 10, 10));
        laying("000", laid(Markets.onDays(10, 1, 3, 5), 5, 10, 10));
    }

    static void eachDayInOneEvent() {
        IS.at("each such day is in one event");
        // All losses of a day together: 30 above 10, not 15 twice.
        Layertreaty x = laid(Markets.onDays(15, 7, 7), 3, 10, 5);
        IS.due(5, x.taken(0));
        laying("00", x);
        // A day that brings nothing is in one, too.
        laying("01", laid(Markets.onDays(1, 1, 9), 3, 10, 5));
        laying("012", laid(Markets.onDays(10, 1, 2, 3), 1, 10, 5));
    }

    static void allLossesOfADayCount() {
        IS.at("the sum of a day is that of all its losses");
        // Day 1 brings 8 by both of its losses: it is better by itself, as day 2 is.
        Layertreaty x = laid(Markets.onDays(9, 1, 2, 1), 3, 10, 9);
        x.setAmount(1, 19);
        IS.due(0, x.eventOf(0, 0));
        IS.due(0, x.eventOf(0, 2));
        IS.due(1, x.eventOf(0, 1));
        IS.due(8 + 9, x.taken(0));
        IS.due(4, x.takenFrom(0, 0));
        x.setAmount(2, 0);
        IS.due(1, x.events(0, 0));
        IS.due(9, x.taken(0));
    }

    static void nextToOneAnother() {
        IS.at("each of days in order, next to one another in this row of days");
        // The first and the third one by themselves would bring 10, the second one 5 more.
        Layertreaty x = laid(Markets.daily(10, 15, 10), 3, 10, 10);
        IS.due(10, x.taken(0));
        laying("000", x);
        // In this row of days: days without losses between do not count, only how far the last one is.
        laying("000", laid(Markets.onDays(10, 1, 5, 9), 9, 10, 30));
    }

    // ---- which laying counts ----

    static void greatestSum() {
        IS.at("that counts by which the sum of what would be taken is greatest");
        // Apart 5 and 5; together 20, but at most b.
        laying("01", laid(Markets.daily(15, 15), 3, 10, 9));
        laying("00", laid(Markets.daily(15, 15), 3, 10, 10));
        laying("00", laid(Markets.daily(15, 15), 3, 10, 11));
        IS.due(10, laid(Markets.daily(15, 15), 3, 10, 9).taken(0));
        IS.due(11, laid(Markets.daily(15, 15), 3, 10, 11).taken(0));
        // The first day alone, though it is by 1 only: 1 and 20, not 20 and 0.
        laying("011", laid(Markets.daily(11, 20, 10), 2, 10, 20));
        laying("001", laid(Markets.daily(10, 20, 10), 2, 10, 20));
        laying("001", laid(Markets.daily(15, 15, 11), 2, 10, 20));
        laying("011", laid(Markets.daily(9, 15, 15), 2, 10, 20));
    }

    static void theLimitAside() {
        IS.at("the limit aside");
        // Apart 20 and 20, together 20; the limit leaves but 20.
        Layertreaty x = Markets.daily(30, 30);
        x.treaty('e', 'o', 0, 999, 10, 20);
        laying("01", x);
        IS.due(20, x.taken(0));
        IS.due(20, x.takenFrom(0, 0));
        IS.due(0, x.takenFrom(0, 1));
        // Used up by another zone, it is laid the same way.
        Layertreaty y = Markets.market(1000);
        y.loss(1, 1, 1, 30);
        y.loss(1, 2, 2, 30);
        y.loss(0, 50, 50, 100);
        y.treaty('e', 'o', 0, 999, 10, 20);
        IS.due(20, y.takenFrom(0, 2));
        IS.due(2, y.events(0, 1));
        IS.due(0, y.takenFrom(0, 0));
        IS.due(true, y.isSame(0));
    }

    static void fewerEvents() {
        IS.at("of several, that with fewer events");
        laying("00", laid(Markets.daily(1, 1), 3, 10, 10));
        laying("00", laid(Markets.daily(20, 1), 3, 0, 50));
        laying("000", laid(Markets.daily(20, 30, 5), 3, 0, 1000));
        laying("00", laid(Markets.daily(50, 1), 3, 10, 40));
        // 1 more is worth one event more.
        laying("01", laid(Markets.daily(50, 11), 3, 10, 40));
        laying("0011", laid(Markets.daily(1, 1, 1, 1), 2, 10, 10));
    }

    static void firstEventEndsLast() {
        IS.at("of these, that whose first event ends last");
        laying("0001", laid(Markets.daily(1, 1, 1, 1), 3, 10, 10));
        laying("001", laid(Markets.daily(1, 1, 1), 2, 10, 10));
        laying("0001", laid(Markets.onDays(1, 1, 2, 3, 4), 3, 0, 100));
        // {1, 2} and {3} bring as much as {1} and {2, 3}.
        laying("001", laid(Markets.daily(20, 5, 20), 2, 10, 10));
    }

    static void thenTheSecondOne() {
        IS.at("then the second one, and so on");
        laying("00112", laid(Markets.daily(1, 1, 1, 1, 1), 2, 10, 10));
        laying("0001112", laid(Markets.daily(1, 1, 1, 1, 1, 1, 1), 3, 10, 10));
        laying("0112233", laid(Markets.onDays(1, 1, 9, 10, 11, 12, 13, 14), 2, 10, 10));
        // The first one is bound to end early by what it brings; the second one still ends last.
        laying("0112", laid(Markets.daily(20, 20, 1, 1), 2, 10, 10));
    }

    static void greatestAheadOfFewerAheadOfLast() {
        IS.at("greatest, then fewer, then last");
        // {1}, {2, 3}: 10 and 9; {1, 2}, {3}: 10 and 0; {1}, {2}, {3}: 10.
        laying("011", laid(Markets.daily(20, 10, 9), 2, 10, 10));
        // Four events would end the first one later, three bring as much.
        Layertreaty u = Markets.onDays(29, 2, 4, 5, 6, 8, 9);
        int[] amounts = {29, 5, 6, 10, 10, 40};
        for (int i = 0; i < 6; i++) {
            u.setAmount(i, amounts[i]);
        }
        laying("011122", laid(u, 3, 10, 20));
    }

    // ---- how events are served ----

    static void servedByTime() {
        IS.at("events are served by time");
        // The later loss was told first.
        Layertreaty x = Markets.onDays(20, 30, 20, 10);
        x.treaty('e', 'o', 0, 999, 0, 45);
        IS.due(20, x.takenFrom(0, 2));
        IS.due(20, x.takenFrom(0, 1));
        IS.due(5, x.takenFrom(0, 0));
        IS.due(0, x.eventOf(0, 2));
        IS.due(2, x.eventOf(0, 0));
    }

    static void eachWithAtMostWhatTheLimitHasLeft() {
        IS.at("each with at most what the limit has left");
        for (int b = 39; b <= 41; b++) {
            Layertreaty x = Markets.onDays(20, 10, 20, 30);
            x.treaty('e', 'o', 0, 999, 0, b);
            IS.due(20, x.takenFrom(0, 0));
            IS.due(Math.min(20, b - 20), x.takenFrom(0, 1));
            IS.due(Math.max(0, b - 40), x.takenFrom(0, 2));
            IS.due(0, x.limit(0));
            // Events from which nothing is taken are events.
            IS.due(3, x.events(0, 0));
            IS.due(2, x.eventOf(0, 2));
        }
        Layertreaty y = Markets.onDays(20, 10, 20);
        y.treaty('e', 'o', 0, 999, 0, 40);
        IS.due(0, y.limit(0));
        IS.due(40, y.taken(0));
        y.setAmount(1, 19);
        IS.due(1, y.limit(0));
    }

    static void zonesByRisingNumbers() {
        IS.at("for each zone by rising numbers");
        for (int early = 0; early < 4; early++) {
            Layertreaty x = Markets.market(1000);
            for (int zone = 3; zone >= 0; zone--) {
                x.loss(zone, 100 + (zone - early + 4) % 4, 200, 10);
            }
            x.treaty('e', 'o', 0, 999, 0, 25);
            IS.due(10, x.takenFrom(0, 3));
            IS.due(10, x.takenFrom(0, 2));
            IS.due(5, x.takenFrom(0, 1));
            IS.due(0, x.takenFrom(0, 0));
            IS.due(1, x.events(0, 3));
            IS.due(0, x.eventOf(0, 0));
        }
    }

    // ---- how what is taken is divided ----

    static void dividedByWhatIsLeft() {
        IS.at("divided among its losses by what is left of each");
        Layertreaty x = new Layertreaty();
        x.policy(1000, 0, 0, 999);
        x.policy(1000, 0, 5, 999);
        x.loss(0, 10, 10, 50);
        x.loss(1, 10, 10, 100);
        x.treaty('q', 'a', 5, 5, 50, 0);
        x.treaty('e', 'o', 0, 999, 90, 100);
        IS.due(5, x.takenFrom(1, 0));
        IS.due(5, x.takenFrom(1, 1));
    }

    static void roundedDown() {
        IS.at("rounded down, and the remainder by 1 each for the first ones");
        // No remainder.
        Layertreaty x = Markets.onDays(10, 4, 4, 4);
        x.treaty('e', 'o', 0, 999, 15, 15);
        for (int loss = 0; loss < 3; loss++) {
            IS.due(5, x.takenFrom(0, loss));
        }
        // A remainder of 1, and one of 2.
        x.treaty('e', 'o', 0, 999, 0, 7);
        IS.due(3, x.takenFrom(1, 0));
        IS.due(2, x.takenFrom(1, 1));
        IS.due(2, x.takenFrom(1, 2));
        x.treaty('e', 'o', 0, 999, 6, 2);
        // Of 2, 3 and 3: 0.5, 0.75 and 0.75; the first ones, not those that would have most.
        IS.due(1, x.takenFrom(2, 0));
        IS.due(1, x.takenFrom(2, 1));
        IS.due(0, x.takenFrom(2, 2));
    }

    static void remainderInTheOrderOfLosses() {
        IS.at("the first ones in the order of losses");
        Layertreaty x = Markets.onDays(10, 3, 2, 2, 1);
        x.treaty('e', 'o', 0, 999, 39, 5);
        IS.due(1, x.takenFrom(0, 3));
        IS.due(0, x.takenFrom(0, 0));
        Layertreaty y = Markets.onDays(10, 3, 2, 2, 1);
        y.treaty('e', 'o', 0, 999, 38, 5);
        IS.due(1, y.takenFrom(0, 3));
        IS.due(1, y.takenFrom(0, 1));
        IS.due(0, y.takenFrom(0, 2));
        Layertreaty z = Markets.onDays(10, 3, 2, 2, 1);
        z.treaty('e', 'o', 0, 999, 37, 5);
        IS.due(1, z.takenFrom(0, 1));
        IS.due(1, z.takenFrom(0, 2));
        IS.due(0, z.takenFrom(0, 0));
    }

    static void remainderOfLimitedEvents() {
        IS.at("what is taken, at most what the limit has left, is divided");
        Layertreaty x = Markets.onDays(10, 1, 50, 50, 50);
        x.treaty('e', 'o', 0, 999, 0, 15);
        // 5 of three tens: 1.67 each.
        IS.due(10, x.takenFrom(0, 0));
        IS.due(2, x.takenFrom(0, 1));
        IS.due(2, x.takenFrom(0, 2));
        IS.due(1, x.takenFrom(0, 3));
    }

    static void whollyTaken() {
        IS.at("all of it: each loss loses what is left of it");
        Layertreaty x = Markets.onDays(1, 5, 5, 6);
        x.setAmount(1, 999999);
        x.treaty('e', 'o', 0, 999, 0, 1000000);
        IS.due(1000000, x.taken(0));
        for (int loss = 0; loss < 3; loss++) {
            IS.due(loss == 2 ? 1 : 0, x.left(loss));
        }
        x.reinstate(0, 1, 0, false);
        IS.due(1000001, x.taken(0));
        IS.due(0, x.left(2));
    }

    static void greatestDivision() {
        IS.at("the greatest amounts, divided");
        Layertreaty x = Markets.market(1000);
        for (int i = 0; i < 30; i++) {
            x.loss(0, 5, 5, 1000000);
        }
        x.treaty('e', 'o', 0, 999, 1, 1000000);
        // 33333.33 each, and 10 for the first ones.
        IS.due(1000000, x.taken(0));
        IS.due(33334, x.takenFrom(0, 0));
        IS.due(33334, x.takenFrom(0, 9));
        IS.due(33333, x.takenFrom(0, 10));
        IS.due(33333, x.takenFrom(0, 29));
        IS.due(true, x.isSound());
    }

    // ---- promises 19 to 21 ----

    static void numbersOfEventsByTime() {
        IS.at("the number of the event, from 0, by time");
        Layertreaty x = Markets.onDays(10, 999, 0, 500, 250, 750);
        x.treaty('e', 'o', 0, 999, 0, 10);
        int[] due = {4, 0, 2, 1, 3};
        for (int loss = 0; loss < 5; loss++) {
            IS.due(due[loss], x.eventOf(0, loss));
        }
        IS.due(5, x.events(0, 0));
    }

    static void thirtyEvents() {
        IS.at("as many events as losses");
        Layertreaty x = Markets.market(1000);
        for (int i = 0; i < 30; i++) {
            x.loss(2, i, i, 11);
        }
        x.treaty('e', 'o', 0, 999, 10, 1);
        x.setDays(0, 1);
        IS.due(30, x.events(0, 2));
        IS.due(29, x.eventOf(0, 29));
        IS.due(true, x.isSame(0));
        IS.due(1, x.taken(0));
        x.setDays(0, 9);
        IS.due(30, x.events(0, 2));
        x.setAmount(0, 10);
        IS.due(29, x.events(0, 2));
    }

    static void inNoEvent() {
        IS.at("eventOf: if it is in none");
        Layertreaty x = Markets.daily(10, 0, 10);
        x.treaty('e', 'o', 0, 2, 0, 5);
        IS.due(0, x.eventOf(0, 0));
        IS.dueThrow(ELEMENT, () -> x.eventOf(0, 1));
        IS.dueThrow(ELEMENT, () -> x.eventOf(0, 2));
        x.setAmount(0, 0);
        IS.dueThrow(ELEMENT, () -> x.eventOf(0, 0));
        x.setAmount(0, 1);
        IS.due(0, x.eventOf(0, 0));
        x.commute(0, 0);
        IS.dueThrow(ELEMENT, () -> x.eventOf(0, 0));
    }

    static void isSameOfTwelveAndThirteenDays() {
        IS.at("isSame: in zones with at most 12 such days; true if there are more");
        for (int count : new int[] {1, 2, 11, 12, 13, 30}) {
            for (int days : new int[] {1, 2, 5, 9}) {
                Layertreaty x = Markets.market(1000);
                for (int i = 0; i < count; i++) {
                    x.loss(3, i + i / 4, 500, 1 + i * 7 % 20);
                }
                x.treaty('e', 'o', 0, 999, 10, 13);
                x.setDays(0, days);
                long taken = x.taken(0);
                IS.due(true, x.isSame(0));
                IS.due(true, x.isSame(0));
                IS.due(taken, x.taken(0));
            }
        }
    }

    static void isSameOfSeveralZones() {
        IS.at("isSame: zones with few days, many and none");
        Layertreaty x = Markets.market(1000);
        for (int i = 0; i < 13; i++) {
            x.loss(0, i, i, 5 + i % 3);
        }
        for (int i = 0; i < 12; i++) {
            x.loss(1, i, i, 5 + i % 4);
        }
        x.loss(3, 5, 5, 5);
        x.treaty('e', 'o', 0, 999, 10, 6);
        x.treaty('e', 'o', 0, 999, 3, 9);
        IS.due(true, x.isSame(0));
        IS.due(true, x.isSame(1));
        x.commute(0, 0);
        IS.due(true, x.isSame(0));
        IS.due(true, x.isSame(1));
    }

    static void isSameAheadOfAllQuestions() {
        IS.at("isSame: asked first");
        Layertreaty x = Markets.daily(15, 3, 22);
        x.treaty('e', 'o', 0, 999, 10, 6);
        IS.due(true, x.isSame(0));
        IS.due(6, x.taken(0));
        x.setAmount(0, 0);
        IS.due(true, x.isSame(0));
        IS.due(0, x.takenFrom(0, 0));
    }
}
