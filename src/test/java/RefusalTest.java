import java.util.ArrayList;
import java.util.HashMap;
import java.util.List;
import java.util.Map;
import java.util.NoSuchElementException;

/**
 * "A method that throws an exception changes nothing. If several exceptions apply, the one that is listed first is
 * thrown." Each refusal is tried on markets of which all answers and settings are compared with those of others of
 * which nothing was asked that is refused.
 */
final class RefusalTest {
    private static final Class<IndexOutOfBoundsException> INDEX = IndexOutOfBoundsException.class;
    private static final Class<IllegalArgumentException> ARGUMENT = IllegalArgumentException.class;
    private static final Class<UnsupportedOperationException> UNSUPPORTED = UnsupportedOperationException.class;
    private static final Class<IllegalStateException> STATE = IllegalStateException.class;
    private static final Class<NoSuchElementException> ELEMENT = NoSuchElementException.class;
    private static final Class<ArithmeticException> ARITHMETIC = ArithmeticException.class;
    private static final Checks IS = new Checks();

    interface Act { Object on(Layertreaty x); }
    interface Maker { Layertreaty make(); }

    private static final Maker RICH = Markets::rich;
    private static final Maker FULL = Markets::full;
    private static final Maker EMPTY = Layertreaty::new;
    private static final Map<Maker, List<String>> DUE = new HashMap<>();

    public static void main(String[] args) {
        IS.runAll(RefusalTest.class);
    }

    private static List<String> all(Layertreaty x) {
        List<String> all = new ArrayList<>(Markets.answers(x));
        all.addAll(Markets.settings(x));
        return all;
    }

    private static void refused(Maker maker, Class<? extends RuntimeException> want, Act act) {
        Layertreaty x = maker.make();
        IS.dueThrow(want, () -> act.on(x));
        List<String> due = DUE.computeIfAbsent(maker, m -> all(m.make()));
        List<String> got = all(x);
        for (int i = 0; i < due.size() && i < got.size(); i++) {
            IS.due(due.get(i), got.get(i));
        }
        IS.due(due.size(), got.size());
        if (maker == RICH) {
            // The same behind questions; a full market would be asked more than 512 times.
            Layertreaty y = maker.make();
            List<String> first = Markets.answers(y);
            IS.dueThrow(want, () -> act.on(y));
            IS.due(first, Markets.answers(y));
        }
    }

    /** On a market of which no place is full. */
    private static void rich(Class<? extends RuntimeException> want, Act act) {
        refused(RICH, want, act);
    }

    /** On one of which all places are taken. */
    private static void full(Class<? extends RuntimeException> want, Act act) {
        refused(FULL, want, act);
    }

    /** On one to which nothing was told. */
    private static void empty(Class<? extends RuntimeException> want, Act act) {
        refused(EMPTY, want, act);
    }

    // ---- the markets ----

    static void marketsAreWhatIsSaid() {
        Layertreaty x = Markets.full();
        IS.dueThrow(STATE, () -> x.policy(1, 0, 0, 0));
        IS.dueThrow(STATE, () -> x.loss(11, 20, 20, 0));
        IS.dueThrow(STATE, () -> x.treaty('q', 'o', 0, 0, 0, 0));
        IS.dueThrow(STATE, () -> x.scenario(0, 1));
        Layertreaty y = Markets.rich();
        IS.due(6, y.policy(1, 0, 0, 0));
        IS.due(14, y.loss(6, 0, 0, 0));
        IS.due(7, y.treaty('q', 'o', 0, 0, 0, 0));
        IS.due(5, y.scenario(0, 1));
    }

    static void whatIsAskedChangesNothing() {
        for (Maker maker : List.of(RICH, FULL, EMPTY)) {
            Layertreaty x = maker.make();
            List<String> first = Markets.answers(x);
            IS.due(first, Markets.answers(maker.make()));
            // Once more the same would be more than 512 calls of a full market.
            if (maker != FULL) {
                IS.due(first, Markets.answers(x));
            }
        }
    }

    // ---- policy: argument, state ----

    static void policyArgument() {
        for (Maker maker : List.of(EMPTY, RICH, FULL)) {
            refused(maker, ARGUMENT, x -> x.policy(0, 1, 5, 500));
            refused(maker, ARGUMENT, x -> x.policy(1000001, 1, 5, 500));
            refused(maker, ARGUMENT, x -> x.policy(77, -1, 5, 500));
            refused(maker, ARGUMENT, x -> x.policy(77, 4, 5, 500));
            refused(maker, ARGUMENT, x -> x.policy(77, 1, -1, 500));
            refused(maker, ARGUMENT, x -> x.policy(77, 1, 5, 1000));
            refused(maker, ARGUMENT, x -> x.policy(77, 1, 5, 4));
        }
    }

    static void policyState() {
        full(STATE, x -> x.policy(77, 1, 5, 500));
    }

    // ---- loss: index, argument, unsupported, state ----

    static void lossIndex() {
        rich(INDEX, x -> x.loss(6, 20, 20, 500));
        rich(INDEX, x -> x.loss(-1, 20, 20, 500));
        full(INDEX, x -> x.loss(12, 20, 20, 500));
        empty(INDEX, x -> x.loss(0, 20, 20, 500));
    }

    static void lossIndexAheadOfArgument() {
        for (Maker maker : List.of(EMPTY, RICH, FULL)) {
            refused(maker, INDEX, x -> x.loss(12, -1, 20, 500));
            refused(maker, INDEX, x -> x.loss(12, 20, 1000, 500));
            refused(maker, INDEX, x -> x.loss(12, 20, 20, -1));
            refused(maker, INDEX, x -> x.loss(-1, 20, 19, 500));
        }
    }

    static void lossArgument() {
        rich(ARGUMENT, x -> x.loss(0, -1, 20, 500));
        rich(ARGUMENT, x -> x.loss(0, 20, 1000, 500));
        rich(ARGUMENT, x -> x.loss(0, 20, 20, -1));
        rich(ARGUMENT, x -> x.loss(0, 20, 20, 1000001));
        rich(ARGUMENT, x -> x.loss(0, 20, 19, 500));
    }

    static void lossArgumentAheadOfUnsupported() {
        // Policy 5 is in force from day 5 on, and none on day 700.
        rich(ARGUMENT, x -> x.loss(5, 4, 3, 500));
        rich(ARGUMENT, x -> x.loss(5, 4, 4, 1000001));
        rich(ARGUMENT, x -> x.loss(5, 700, 1000, 500));
        rich(ARGUMENT, x -> x.loss(5, 1000, 1000, 500));
    }

    static void lossArgumentAheadOfState() {
        full(ARGUMENT, x -> x.loss(0, 20, 20, 1000001));
        full(ARGUMENT, x -> x.loss(0, 20, 19, 500));
        full(ARGUMENT, x -> x.loss(0, 700, 699, 500));
    }

    static void lossUnsupported() {
        rich(UNSUPPORTED, x -> x.loss(5, 4, 4, 500));
        rich(UNSUPPORTED, x -> x.loss(5, 606, 700, 500));
    }

    static void lossUnsupportedAheadOfState() {
        full(UNSUPPORTED, x -> x.loss(5, 4, 4, 500));
        full(UNSUPPORTED, x -> x.loss(5, 606, 700, 500));
    }

    static void lossState() {
        full(STATE, x -> x.loss(5, 5, 5, 500));
        full(STATE, x -> x.loss(5, 605, 605, 0));
    }

    // ---- setAmount: index, argument ----

    static void setAmountIndex() {
        rich(INDEX, x -> x.setAmount(14, 7));
        rich(INDEX, x -> x.setAmount(-1, 7));
        full(INDEX, x -> x.setAmount(30, 7));
        empty(INDEX, x -> x.setAmount(0, 7));
    }

    static void setAmountIndexAheadOfArgument() {
        rich(INDEX, x -> x.setAmount(14, -1));
        empty(INDEX, x -> x.setAmount(0, 1000001));
    }

    static void setAmountArgument() {
        rich(ARGUMENT, x -> x.setAmount(0, -1));
        full(ARGUMENT, x -> x.setAmount(29, 1000001));
    }

    // ---- treaty: argument, state ----

    static void treatyArgument() {
        for (Maker maker : List.of(EMPTY, RICH, FULL)) {
            refused(maker, ARGUMENT, x -> x.treaty('p', 'o', 0, 999, 50, 2));
            refused(maker, ARGUMENT, x -> x.treaty('q', 'b', 0, 999, 50, 2));
            refused(maker, ARGUMENT, x -> x.treaty('q', 'o', -1, 999, 50, 2));
            refused(maker, ARGUMENT, x -> x.treaty('q', 'o', 0, 1000, 50, 2));
            refused(maker, ARGUMENT, x -> x.treaty('q', 'o', 5, 4, 50, 2));
            refused(maker, ARGUMENT, x -> x.treaty('q', 'o', 0, 999, 101, 2));
            refused(maker, ARGUMENT, x -> x.treaty('s', 'o', 0, 999, 0, 2));
            refused(maker, ARGUMENT, x -> x.treaty('s', 'o', 0, 999, 50, 21));
            refused(maker, ARGUMENT, x -> x.treaty('r', 'o', 0, 999, 50, 0));
            refused(maker, ARGUMENT, x -> x.treaty('e', 'o', 0, 999, -1, 2));
            refused(maker, ARGUMENT, x -> x.treaty('a', 'o', 0, 999, 0, 1000001));
        }
    }

    static void treatyState() {
        full(STATE, x -> x.treaty('q', 'o', 0, 999, 50, 2));
        full(STATE, x -> x.treaty('e', 'o', 0, 999, 0, 1000));
    }

    // ---- setDays, setPremium: index, argument ----

    static void setDaysIndex() {
        rich(INDEX, x -> x.setDays(7, 2));
        rich(INDEX, x -> x.setDays(-1, 2));
        full(INDEX, x -> x.setDays(8, 2));
        empty(INDEX, x -> x.setDays(0, 2));
    }

    static void setDaysIndexAheadOfArgument() {
        rich(INDEX, x -> x.setDays(7, 0));
        empty(INDEX, x -> x.setDays(0, 10));
    }

    static void setDaysArgument() {
        rich(ARGUMENT, x -> x.setDays(3, 0));
        rich(ARGUMENT, x -> x.setDays(3, 10));
        full(ARGUMENT, x -> x.setDays(5, 10));
    }

    static void setPremiumIndex() {
        rich(INDEX, x -> x.setPremium(7, 2));
        rich(INDEX, x -> x.setPremium(-1, 2));
        full(INDEX, x -> x.setPremium(8, 2));
        empty(INDEX, x -> x.setPremium(0, 2));
    }

    static void setPremiumIndexAheadOfArgument() {
        rich(INDEX, x -> x.setPremium(7, -1));
        empty(INDEX, x -> x.setPremium(0, 1000001));
    }

    static void setPremiumArgument() {
        rich(ARGUMENT, x -> x.setPremium(2, -1));
        full(ARGUMENT, x -> x.setPremium(3, 1000001));
    }

    // ---- reinstate: index, argument, unsupported ----

    static void reinstateIndex() {
        rich(INDEX, x -> x.reinstate(7, 1, 10, true));
        rich(INDEX, x -> x.reinstate(-1, 1, 10, true));
        full(INDEX, x -> x.reinstate(8, 1, 10, true));
        empty(INDEX, x -> x.reinstate(0, 1, 10, true));
    }

    static void reinstateIndexAheadOfArgument() {
        rich(INDEX, x -> x.reinstate(7, 6, 10, true));
        empty(INDEX, x -> x.reinstate(0, 1, 201, true));
    }

    static void reinstateArgument() {
        rich(ARGUMENT, x -> x.reinstate(2, -1, 10, false));
        rich(ARGUMENT, x -> x.reinstate(2, 6, 10, false));
        rich(ARGUMENT, x -> x.reinstate(3, 0, -1, true));
        rich(ARGUMENT, x -> x.reinstate(3, 0, 201, true));
    }

    static void reinstateArgumentAheadOfUnsupported() {
        for (int treaty : new int[] {0, 1, 4, 6}) {
            rich(ARGUMENT, x -> x.reinstate(treaty, 6, 10, false));
            rich(ARGUMENT, x -> x.reinstate(treaty, 1, 201, false));
        }
    }

    static void reinstateUnsupported() {
        for (int treaty : new int[] {0, 1, 4, 6}) {
            rich(UNSUPPORTED, x -> x.reinstate(treaty, 5, 10, true));
        }
    }

    // ---- share: index, argument, unsupported ----

    static void shareIndex() {
        rich(INDEX, x -> x.share(7, 0, 5));
        rich(INDEX, x -> x.share(-1, 0, 5));
        rich(INDEX, x -> x.share(0, 5, 5));
        rich(INDEX, x -> x.share(0, -1, 5));
        full(INDEX, x -> x.share(8, 0, 5));
        empty(INDEX, x -> x.share(0, 0, 5));
    }

    static void shareIndexAheadOfArgument() {
        rich(INDEX, x -> x.share(7, 0, -1));
        rich(INDEX, x -> x.share(0, 5, 101));
        empty(INDEX, x -> x.share(0, 0, 101));
    }

    static void shareIndexAheadOfUnsupported() {
        // 80 are taken of each.
        rich(INDEX, x -> x.share(0, 5, 100));
        rich(INDEX, x -> x.share(7, 1, 100));
    }

    static void shareArgument() {
        rich(ARGUMENT, x -> x.share(0, 0, -1));
        rich(ARGUMENT, x -> x.share(0, 1, Integer.MIN_VALUE));
    }

    static void shareArgumentAheadOfUnsupported() {
        rich(ARGUMENT, x -> x.share(0, 1, 101));
        rich(ARGUMENT, x -> x.share(0, 1, Integer.MAX_VALUE));
    }

    static void shareUnsupported() {
        rich(UNSUPPORTED, x -> x.share(0, 1, 21));
        rich(UNSUPPORTED, x -> x.share(0, 0, 51));
        full(UNSUPPORTED, x -> x.share(7, 0, 21));
    }

    // ---- fail, handOn ----

    static void failIndex() {
        for (Maker maker : List.of(EMPTY, RICH, FULL)) {
            refused(maker, INDEX, x -> x.fail(5, true));
            refused(maker, INDEX, x -> x.fail(-1, false));
        }
    }

    static void handOnIndex() {
        for (Maker maker : List.of(EMPTY, RICH, FULL)) {
            refused(maker, INDEX, x -> x.handOn(0, 5, 0, 5));
            refused(maker, INDEX, x -> x.handOn(0, -1, 0, 5));
            refused(maker, INDEX, x -> x.handOn(5, 0, 0, 5));
            refused(maker, INDEX, x -> x.handOn(-1, 0, 0, 5));
        }
    }

    static void handOnIndexAheadOfArgument() {
        rich(INDEX, x -> x.handOn(5, 5, 0, 5));
        rich(INDEX, x -> x.handOn(-1, -1, 0, 5));
        rich(INDEX, x -> x.handOn(0, 5, -1, 5));
        rich(INDEX, x -> x.handOn(5, 0, 0, 1000001));
        rich(INDEX, x -> x.handOn(0, -1, 1000001, -1));
    }

    static void handOnArgument() {
        rich(ARGUMENT, x -> x.handOn(0, 0, 0, 5));
        rich(ARGUMENT, x -> x.handOn(2, 2, 0, 0));
        rich(ARGUMENT, x -> x.handOn(0, 3, -1, 5));
        rich(ARGUMENT, x -> x.handOn(0, 3, 1000001, 5));
        rich(ARGUMENT, x -> x.handOn(0, 3, 0, -1));
        rich(ARGUMENT, x -> x.handOn(1, 3, 500, 1000001));
        rich(ARGUMENT, x -> x.handOn(1, 3, -1, 0));
        rich(ARGUMENT, x -> x.handOn(3, 0, -1, 1000));
    }

    // ---- commute: index, argument, unsupported ----

    static void commuteIndex() {
        rich(INDEX, x -> x.commute(7, 5));
        rich(INDEX, x -> x.commute(-1, 5));
        full(INDEX, x -> x.commute(8, 5));
        empty(INDEX, x -> x.commute(0, 5));
    }

    static void commuteIndexAheadOfArgument() {
        rich(INDEX, x -> x.commute(7, -1));
        empty(INDEX, x -> x.commute(0, 1000001));
    }

    static void commuteArgument() {
        rich(ARGUMENT, x -> x.commute(0, -1));
        rich(ARGUMENT, x -> x.commute(3, 1000001));
    }

    static void commuteArgumentAheadOfUnsupported() {
        rich(ARGUMENT, x -> x.commute(6, -1));
        rich(ARGUMENT, x -> x.commute(6, 1000001));
    }

    static void commuteUnsupported() {
        rich(UNSUPPORTED, x -> x.commute(6, 0));
        rich(UNSUPPORTED, x -> x.commute(6, 999));
        full(UNSUPPORTED, x -> x.commute(6, 123));
    }

    // ---- questions about losses and treaties ----

    static void indexOfQuestions() {
        rich(INDEX, x -> x.left(14));
        rich(INDEX, x -> x.left(-1));
        rich(INDEX, x -> x.taken(7));
        rich(INDEX, x -> x.takenFrom(7, 0));
        rich(INDEX, x -> x.takenFrom(0, 14));
        rich(INDEX, x -> x.takenFrom(6, -1));
        rich(INDEX, x -> x.reinstated(7));
        rich(INDEX, x -> x.owed(7));
        rich(INDEX, x -> x.paid(7, 0));
        rich(INDEX, x -> x.paid(0, 5));
        rich(INDEX, x -> x.lost(5));
        rich(INDEX, x -> x.comes(5));
        rich(INDEX, x -> x.stays(5));
        rich(INDEX, x -> x.isSame(7));
        rich(INDEX, x -> x.scenarioNet(5));
    }

    static void limitIndex() {
        rich(INDEX, x -> x.limit(7));
        rich(INDEX, x -> x.limit(-1));
    }

    static void limitUnsupported() {
        for (int treaty : new int[] {0, 1, 4}) {
            rich(UNSUPPORTED, x -> x.limit(treaty));
        }
    }

    static void limitUnsupportedAheadOfState() {
        rich(UNSUPPORTED, x -> x.limit(6));
        IS.at("limit of q, s and a that were commuted");
        for (char kind : new char[] {'q', 's', 'a'}) {
            Layertreaty x = Markets.daily(100);
            x.treaty(kind, 'o', 0, 999, 10, 10);
            x.commute(0, 0);
            IS.dueThrow(UNSUPPORTED, () -> x.limit(0));
        }
    }

    static void limitState() {
        for (char kind : new char[] {'r', 'e'}) {
            refused(() -> {
                Layertreaty x = Markets.daily(100);
                x.treaty(kind, 'o', 0, 999, 10, 50);
                x.commute(0, 3);
                return x;
            }, STATE, x -> x.limit(0));
        }
    }

    static void eventsIndex() {
        rich(INDEX, x -> x.events(7, 0));
        rich(INDEX, x -> x.events(-1, 0));
    }

    static void eventsIndexAheadOfArgument() {
        rich(INDEX, x -> x.events(7, 4));
        empty(INDEX, x -> x.events(0, -1));
    }

    static void eventsArgument() {
        rich(ARGUMENT, x -> x.events(3, 4));
        rich(ARGUMENT, x -> x.events(3, -1));
    }

    static void eventsArgumentAheadOfUnsupported() {
        for (int treaty : new int[] {0, 1, 2, 4, 6}) {
            rich(ARGUMENT, x -> x.events(treaty, 4));
            rich(ARGUMENT, x -> x.events(treaty, -1));
        }
    }

    static void eventsUnsupported() {
        for (int treaty : new int[] {0, 1, 2, 4, 6}) {
            rich(UNSUPPORTED, x -> x.events(treaty, 3));
        }
    }

    static void eventOfIndex() {
        rich(INDEX, x -> x.eventOf(7, 0));
        rich(INDEX, x -> x.eventOf(3, 14));
        rich(INDEX, x -> x.eventOf(3, -1));
    }

    static void eventOfIndexAheadOfUnsupported() {
        for (int treaty : new int[] {0, 1, 2, 4, 6}) {
            rich(INDEX, x -> x.eventOf(treaty, 14));
            rich(INDEX, x -> x.eventOf(treaty, -1));
        }
    }

    static void eventOfUnsupported() {
        for (int treaty : new int[] {0, 1, 2, 4, 6}) {
            rich(UNSUPPORTED, x -> x.eventOf(treaty, 0));
        }
    }

    static void eventOfUnsupportedAheadOfElement() {
        IS.at("eventOf a loss that is in no event, by a treaty that has none");
        for (char kind : new char[] {'q', 's', 'r', 'a'}) {
            Layertreaty x = Markets.daily(0);
            x.treaty(kind, 'o', 500, 999, 10, 10);
            IS.dueThrow(UNSUPPORTED, () -> x.eventOf(0, 0));
        }
    }

    static void eventOfElement() {
        refused(() -> {
            Layertreaty x = Markets.daily(0, 50);
            x.treaty('e', 'o', 0, 1, 0, 50);
            return x;
        }, ELEMENT, x -> x.eventOf(0, 0));
        refused(() -> {
            Layertreaty x = Markets.daily(0, 50);
            x.treaty('e', 'o', 0, 1, 0, 50);
            return x;
        }, ELEMENT, x -> x.eventOf(0, 1));
    }

    static void isSameUnsupported() {
        for (int treaty : new int[] {0, 1, 2, 4, 6}) {
            rich(UNSUPPORTED, x -> x.isSame(treaty));
        }
        empty(INDEX, x -> x.isSame(0));
    }

    // ---- scenarios ----

    static void scenarioArgument() {
        for (Maker maker : List.of(EMPTY, RICH, FULL)) {
            refused(maker, ARGUMENT, x -> x.scenario(-1, 5));
            refused(maker, ARGUMENT, x -> x.scenario(1000, 5));
            refused(maker, ARGUMENT, x -> x.scenario(20, 0));
            refused(maker, ARGUMENT, x -> x.scenario(20, 10));
        }
    }

    static void scenarioState() {
        full(STATE, x -> x.scenario(20, 5));
    }

    static void damageIndex() {
        rich(INDEX, x -> x.damage(5, 0, 50));
        rich(INDEX, x -> x.damage(-1, 0, 50));
        full(INDEX, x -> x.damage(12, 0, 50));
        empty(INDEX, x -> x.damage(0, 0, 50));
    }

    static void damageIndexAheadOfArgument() {
        rich(INDEX, x -> x.damage(5, 4, 50));
        rich(INDEX, x -> x.damage(5, 0, 101));
        empty(INDEX, x -> x.damage(0, -1, -1));
    }

    static void damageArgument() {
        rich(ARGUMENT, x -> x.damage(0, 4, 50));
        rich(ARGUMENT, x -> x.damage(0, -1, 50));
        rich(ARGUMENT, x -> x.damage(0, 0, 101));
        full(ARGUMENT, x -> x.damage(11, 0, -1));
    }

    static void tailArgument() {
        rich(ARGUMENT, x -> x.tail(-1));
        rich(ARGUMENT, x -> x.tail(100));
    }

    static void tailArgumentAheadOfElement() {
        empty(ARGUMENT, x -> x.tail(-1));
        empty(ARGUMENT, x -> x.tail(100));
    }

    static void tailElement() {
        empty(ELEMENT, x -> x.tail(0));
        empty(ELEMENT, x -> x.tail(99));
    }

    static void leftShareArithmetic() {
        empty(ARITHMETIC, x -> x.leftShare());
        refused(() -> Markets.daily(0, 0), ARITHMETIC, x -> x.leftShare());
    }

    static void meanNetArithmetic() {
        empty(ARITHMETIC, x -> x.meanNet());
        refused(() -> Markets.daily(5, 5), ARITHMETIC, x -> x.meanNet());
    }
}
