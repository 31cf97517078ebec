import java.util.ArrayList;
import java.util.List;

/** Markets that several tests begin with, and all that a market tells. */
final class Markets {
    private Markets() {
    }

    /** Policies of this sum that are always in force, one in each zone, numbered as the zones. */
    static Layertreaty market(int sum) {
        Layertreaty x = new Layertreaty();
        for (int zone = 0; zone < 4; zone++) {
            x.policy(sum, zone, 0, 999);
        }
        return x;
    }

    /** The same of a sum of 1000, with losses of these amounts in zone 0, on day 1, 2, 3 and so on. */
    static Layertreaty daily(int... amounts) {
        Layertreaty x = market(1000);
        for (int i = 0; i < amounts.length; i++) {
            x.loss(0, i + 1, i + 1, amounts[i]);
        }
        return x;
    }

    /** The same, with losses of this amount in zone 0, one on each of these days. */
    static Layertreaty onDays(int amount, int... days) {
        Layertreaty x = market(1000);
        for (int day : days) {
            x.loss(0, day, day, amount);
        }
        return x;
    }

    /** One policy of this sum, with a loss of this amount on day 5. */
    static Layertreaty single(int sum, int amount) {
        Layertreaty x = new Layertreaty();
        x.policy(sum, 0, 0, 999);
        x.loss(0, 5, 5, amount);
        return x;
    }

    /** Of everything some, no place full: treaties 0 to 5 are q, s, r, e, a and e; 6 was commuted. */
    static Layertreaty rich() {
        Layertreaty x = new Layertreaty();
        fill(x, 6, 14, 7, 5);
        return x;
    }

    /** Of everything as much as there may be; treaty 7 is one more r. */
    static Layertreaty full() {
        Layertreaty x = new Layertreaty();
        fill(x, 12, 30, 8, 12);
        return x;
    }

    private static void fill(Layertreaty x, int policies, int losses, int treaties, int scenarios) {
        for (int i = 0; i < policies; i++) {
            x.policy(1000 + 700 * i, i % 4, i, 600 + i);
        }
        for (int i = 0; i < losses; i++) {
            int day = 20 + i * i % 23;
            x.loss(i % policies, day, day + i, 400 + 37 * i);
        }
        String kinds = "qsreaeqr";
        int[] a = {10, 900, 150, 200, 300, 100, 50, 20};
        int[] b = {0, 2, 400, 350, 500, 90, 0, 60};
        for (int i = 0; i < treaties; i++) {
            x.treaty(kinds.charAt(i), "oacooooo".charAt(i), 0, 700 + i, a[i], b[i]);
            x.setPremium(i, 500 + i);
            x.share(i, i % 5, 30 + i);
            x.share(i, (i + 2) % 5, 50 - i);
        }
        x.setDays(3, 4);
        x.reinstate(2, 2, 120, true);
        x.reinstate(3, 1, 90, false);
        x.reinstate(5, 5, 200, true);
        x.fail(3, true);
        x.handOn(0, 1, 10, 100);
        x.handOn(1, 2, 30, 1000000);
        x.handOn(2, 0, 50, 77);
        x.handOn(4, 3, 0, 60);
        x.commute(6, 123);
        for (int i = 0; i < scenarios; i++) {
            x.scenario(20 + i, 1 + i % 9);
            x.damage(i, i % 4, 5 + 7 * i);
            x.damage(i, (i + 1) % 4, 100 - 3 * i);
        }
    }

    interface Call { Object answer(); }

    static String told(Call call) {
        try {
            return String.valueOf(call.answer());
        } catch (RuntimeException e) {
            return e.getClass().getSimpleName();
        }
    }

    /** All that can be asked of a market of which this many losses, treaties and scenarios may be. */
    static List<String> answers(Layertreaty x) {
        List<String> all = new ArrayList<>();
        int losses = x.losses();
        int treaties = x.treaties();
        all.add("losses " + losses + ", treaties " + treaties + ", all losses " + x.allLosses());
        for (int i = 0; i < losses; i++) {
            int loss = i;
            all.add("left of " + i + ": " + told(() -> x.left(loss)));
        }
        for (int i = 0; i < treaties; i++) {
            int treaty = i;
            all.add("treaty " + i + ": " + told(() -> x.taken(treaty)) + " " + told(() -> x.limit(treaty)) + " "
                    + told(() -> x.reinstated(treaty)) + " " + told(() -> x.owed(treaty)) + " " + told(() -> x.isSame(treaty)));
            for (int k = 0; k < losses; k += 5) {
                int loss = k;
                all.add("taken from " + i + " " + k + ": " + told(() -> x.takenFrom(treaty, loss)));
            }
            for (int k = 0; k < losses && (i == 3 || i == 5); k += 3) {
                int loss = k;
                all.add("event " + i + " " + k + ": " + told(() -> x.eventOf(treaty, loss)));
            }
            for (int k = 0; k < 5; k++) {
                int reinsurer = k;
                all.add("paid " + i + " " + k + ": " + told(() -> x.paid(treaty, reinsurer)));
            }
        }
        for (int i = 0; i < 5; i++) {
            all.add("reinsurer " + i + ": " + x.lost(i) + " " + x.comes(i) + " " + x.stays(i));
        }
        for (int i = 0; i < 12; i++) {
            int scenario = i;
            all.add("scenario " + i + ": " + told(() -> x.scenarioNet(scenario)));
        }
        all.add("tails " + told(() -> x.tail(0)) + " " + told(() -> x.tail(30)) + " " + told(() -> x.tail(99)));
        all.add(told(x::net) + " " + told(x::leftShare) + " " + told(x::meanNet) + " " + told(x::isSound));
        return all;
    }

    /** What was set in a market, as told by setting all of it anew. */
    static List<String> settings(Layertreaty x) {
        List<String> all = new ArrayList<>();
        int treaties = x.treaties();
        for (int i = 0; i < treaties; i++) {
            int treaty = i;
            all.add("days " + i + ": " + told(() -> x.setDays(treaty, 1)) + ", premium " + told(() -> x.setPremium(treaty, 0))
                    + ", reinstatements " + told(() -> x.reinstate(treaty, 0, 0, false)));
            for (int k = 0; k < 5; k++) {
                int reinsurer = k;
                all.add("share " + i + " " + k + ": " + told(() -> x.share(treaty, reinsurer, 0)));
            }
        }
        for (int i = 0; i < 5; i++) {
            int reinsurer = i;
            all.add("reinsurer " + i + ": " + told(() -> x.fail(reinsurer, false)) + " "
                    + told(() -> x.handOn(reinsurer, (reinsurer + 1) % 5, 0, 0)));
        }
        for (int i = 0; i < 12; i++) {
            for (int k = 0; k < 4; k++) {
                int scenario = i;
                int zone = k;
                all.add("damage " + i + " " + k + ": " + told(() -> x.damage(scenario, zone, 0)));
            }
        }
        return all;
    }
}
