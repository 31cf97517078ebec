/** Makes many runs of calls, the same each time, and compares the program with the model. */
final class ModelTest {
    private static final int RUNS = Integer.getInteger("runs", 600);
    private static final int CALLS = 400;
    private static int wrong = 0;

    private long seed;
    private final Layertreaty program = new Layertreaty();
    private final Model model = new Model();
    private final int days;
    private final int money;
    private final int step;
    private final int faults;
    private final boolean isOfRings;
    private String call;

    private ModelTest(int run) {
        seed = run * 7919L + 17;
        days = new int[] {12, 30, 100, 999}[run % 4];
        money = new int[] {60, 1000, 1000000}[run / 4 % 3];
        step = new int[] {1, 5, 10}[run / 12 % 3];
        isOfRings = run % 5 == 4;
        faults = new int[] {0, 4, 25}[run / 36 % 3];
    }

    public static void main(String[] args) {
        for (int run = 0; run < RUNS && wrong < 10; run++) {
            ModelTest test = new ModelTest(run);
            for (int i = 0; i < CALLS; i++) {
                if (!test.compareOne()) {
                    System.out.println("run " + run + ", call " + i + ": " + test.call);
                    wrong++;
                    break;
                }
            }
        }
        System.out.println(wrong == 0 ? "the program answers as the model" : wrong + " runs differ from the model");
        System.exit(wrong == 0 ? 0 : 1);
    }

    private int next(int bound) {
        seed = seed * 6364136223846793005L + 1442695040888963407L;
        return (int) ((seed >>> 33) % bound);
    }

    /** Now and then a number that is no good, or just good, or just not. */
    private int maybe(int good, int least, int most) {
        if (next(100) >= faults) { return good; }
        int[] odd = {least - 1, least, most, most + 1, -1, Integer.MIN_VALUE, Integer.MAX_VALUE, 1 << 16};
        return odd[next(odd.length)];
    }

    private int at(int size) { return maybe(size == 0 ? 0 : next(size), 0, size - 1); }
    private int among(int least, int most) { return maybe(least + next(most - least + 1), least, most); }
    private int day() { return maybe(next(days + 1), 0, 999); }
    private int later(int first) { return maybe(Math.min(999, Math.max(first, 0) + next(days + 1)), 0, 999); }
    private int amount(int least) { return maybe(Math.min(1000000, Math.max(least, next(money / step + 1) * step)), least, 1000000); }

    private interface Call { Object answer(); }

    private static String told(Call call, boolean isProgram) {
        try {
            return String.valueOf(call.answer());
        } catch (RuntimeException e) {
            return (isProgram && !Checks.isThrownByProgram(e) ? "the machine's " : "") + e.getClass().getName();
        }
    }

    private boolean compare(String name, Call mine, Call due) {
        String a = told(mine, true);
        String b = told(due, false);
        call = name + " answered " + a + ", the model says " + b;
        return a.equals(b);
    }

    private boolean compareOne() {
        if (isOfRings && model.losses.size() > 2 && model.treaties.size() > 1) {
            return next(4) == 0 ? compareRest(next(5)) : next(3) == 0 ? compareRest(2) : compareChange(13 + next(4));
        }
        int kind = next(40);
        if (kind < 16) { return compareChange(next(18)); }
        return kind < 28 ? compareLosses(next(12)) : compareRest(next(13));
    }

    private boolean compareChange(int which) {
        Layertreaty x = program;
        Model y = model;
        switch (which) {
            case 0: case 1: {
                int sum = amount(1), zone = among(0, 3), first = maybe(next(days / 4 + 1), 0, 999), last = later(first);
                return compare("policy", () -> x.policy(sum, zone, first, last), () -> y.policy(sum, zone, first, last));
            }
            case 2: case 3: case 4: case 5: case 6: {
                int p = at(y.policies.size()), day = day(), told = later(day), amount = amount(0);
                return compare("loss", () -> x.loss(p, day, told, amount), () -> y.loss(p, day, told, amount));
            }
            case 7: {
                int l = at(y.losses.size()), amount = amount(0);
                return compare("setAmount", () -> x.setAmount(l, amount), () -> y.setAmount(l, amount));
            }
            case 8: case 9: {
                char kind = (char) maybe("qsreaee".charAt(next(7)), 'd', 'r'), basis = (char) maybe("oacoo".charAt(next(5)), 'a', 'c');
                int first = maybe(next(days / 4 + 1), 0, 999), last = later(first);
                int a = kind == 'q' ? among(0, 100) : amount(kind == 's' ? 1 : 0), b = kind == 's' ? among(1, 20) : amount(1);
                int half = kind == 'q' ? a : Math.max(a / 3, Math.min(a, 1));
                return compare("treaty", () -> x.treaty(kind, basis, first, last, half, b), () -> y.treaty(kind, basis, first, last, half, b));
            }
            case 10: {
                int t = at(y.treaties.size()), days = among(1, 9);
                return compare("setDays", () -> x.setDays(t, days), () -> y.setDays(t, days));
            }
            case 11: {
                int t = at(y.treaties.size()), many = among(0, 5), price = among(0, 200);
                boolean byTime = next(2) == 0;
                return compare("reinstate", () -> x.reinstate(t, many, price, byTime), () -> y.reinstate(t, many, price, byTime));
            }
            case 12: {
                int t = at(y.treaties.size()), premium = amount(0);
                return compare("setPremium", () -> x.setPremium(t, premium), () -> y.setPremium(t, premium));
            }
            case 13: case 14: {
                int t = at(y.treaties.size()), r = at(5), share = among(0, isOfRings ? 4 : next(3) == 0 ? 100 : 40);
                return compare("share", () -> x.share(t, r, share), () -> y.share(t, r, share));
            }
            case 15: {
                int r = at(5);
                boolean is = next(3) == 0;
                return compare("fail", () -> x.fail(r, is), () -> y.fail(r, is));
            }
            case 16: {
                int from = at(5), to = next(8) == 0 ? at(5) : (Math.floorMod(from, 5) + 1 + next(2)) % 5, bound = amount(0) / (isOfRings ? 50 : 8), limit = next(6) == 0 ? 0 : amount(0);
                return compare("handOn", () -> x.handOn(from, to, bound, limit), () -> y.handOn(from, to, bound, limit));
            }
            default: {
                if (next(6) != 0) { return true; }
                int t = at(y.treaties.size()), price = amount(0);
                return compare("commute", () -> x.commute(t, price), () -> y.commute(t, price));
            }
        }
    }

    private boolean compareLosses(int which) {
        Layertreaty x = program;
        Model y = model;
        int t = at(y.treaties.size()), l = at(y.losses.size()), zone = among(0, 3);
        switch (which) {
            case 0: return compare("left", () -> x.left(l), () -> y.left(l));
            case 1: return compare("taken", () -> x.taken(t), () -> y.taken(t));
            case 2: return compare("takenFrom", () -> x.takenFrom(t, l), () -> y.takenFrom(t, l));
            case 3: return compare("limit", () -> x.limit(t), () -> y.limit(t));
            case 4: return compare("reinstated", () -> x.reinstated(t), () -> y.reinstated(t));
            case 5: return compare("owed", () -> x.owed(t), () -> y.owed(t));
            case 6: case 7: return compare("events", () -> x.events(t, zone), () -> y.events(t, zone));
            case 8: case 9: return compare("eventOf", () -> x.eventOf(t, l), () -> y.eventOf(t, l));
            case 10: return compare("isSame", () -> x.isSame(t), () -> y.isSame(t));
            default: return compare("isSound", x::isSound, y::isSound);
        }
    }

    private boolean compareRest(int which) {
        Layertreaty x = program;
        Model y = model;
        int t = at(y.treaties.size()), r = at(5), s = at(y.scenarios.size());
        switch (which) {
            case 0: return compare("paid", () -> x.paid(t, r), () -> y.paid(t, r));
            case 1: return compare("lost", () -> x.lost(r), () -> y.lost(r));
            case 2: return compare("comes", () -> x.comes(r), () -> y.comes(r));
            case 3: return compare("stays", () -> x.stays(r), () -> y.stays(r));
            case 4: return compare("net", x::net, y::net);
            case 5: {
                int day = maybe(next(days / 2 + 1), 0, 999), weight = among(1, 9);
                return compare("scenario", () -> x.scenario(day, weight), () -> y.scenario(day, weight));
            }
            case 6: case 7: {
                int zone = among(0, 3), hundredths = among(0, 100);
                return compare("damage", () -> x.damage(s, zone, hundredths), () -> y.damage(s, zone, hundredths));
            }
            case 8: return compare("scenarioNet", () -> x.scenarioNet(s), () -> y.scenarioNet(s));
            case 9: {
                int hundredths = among(0, 99);
                return compare("tail", () -> x.tail(hundredths), () -> y.tail(hundredths));
            }
            case 10: return compare("leftShare", x::leftShare, y::leftShare);
            case 11: return compare("meanNet", x::meanNet, y::meanNet);
            default:
                return compare("losses", x::losses, y::losses) && compare("treaties", x::treaties, y::treaties)
                        && compare("allLosses", x::allLosses, y::allLosses);
        }
    }
}
