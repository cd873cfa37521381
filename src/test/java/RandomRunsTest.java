import java.util.Random;

/** Long runs of calls on the class and on a plain model of the document; each answer must be the same. */
public final class RandomRunsTest {
    private static final int RUNS = 3000;
    // What an object answers behind its 512th call is free, so no answer beyond it is looked at.
    private static final int CALLS = 512;
    private static final int CALLS_AT_LAST = 150;
    private static final Checks CHECKS = new Checks();

    private final Random random;
    private final FoulRights real = new FoulRights();
    private final PlainModel model = new PlainModel();
    private final String name;
    // How many of 100 arguments are drawn from beyond what can be, and how many years a run sees.
    private final int wild;
    private final int endsAmong;
    private final boolean rulesHigh;
    private int callsLeft = CALLS;

    private RandomRunsTest(int seed) {
        random = new Random(seed);
        name = "run " + seed + ": ";
        wild = new int[] {0, 2, 25}[seed % 3];
        endsAmong = new int[] {150, 30, 8, 60}[seed % 4];
        rulesHigh = seed % 5 < 2;
    }

    public static void main(String[] args) {
        for (int seed = 0; seed < RUNS && CHECKS.wrongSoFar() == 0; seed++) {
            new RandomRunsTest(seed).play();
        }
        CHECKS.close();
    }

    private void play() {
        int first = random.nextInt(11);
        for (int i = 0; i < first; i++) {
            due("works()", real.works(), model.works());
        }
        // Without it hardly a run would come near to 4000 permits.
        if (rulesHigh) {
            int share = random.nextInt(101) * 100000 + 2003;
            due("rule(0, 400000, " + share + ")", real.rule(0, 400000, share), model.rule(0, 400000, share));
        }
        while (callsLeft > CALLS_AT_LAST) {
            call(CALLS - callsLeft);
        }
        compareAll();
    }

    private void due(String call, long got, long want) {
        callsLeft--;
        CHECKS.due(name + call, got, want);
    }

    private void due(String call, boolean got, boolean want) {
        callsLeft--;
        CHECKS.due(name + call, got, want);
    }

    /** Mostly low .. high; at times just beyond, or anything. */
    private int some(int low, int high) {
        if (random.nextInt(100) >= wild) {
            return low + random.nextInt(high - low + 1);
        }
        switch (random.nextInt(6)) {
            case 0:
                return low - 1;
            case 1:
                return high + 1;
            case 2:
                return random.nextInt();
            case 3:
                return Integer.MIN_VALUE;
            case 4:
                return Integer.MAX_VALUE;
            default:
                return random.nextBoolean() ? low : high;
        }
    }

    private int someWorks() {
        return some(0, Math.max(0, model.count(1) - 1));
    }

    private int someOf(int works) {
        return some(1, Math.max(1, model.told(works, 2)));
    }

    private void call(int i) {
        if (random.nextInt(endsAmong) == 0) {
            due(i + " issue()", real.issue(), model.issue());
            due(i + " end()", real.end(), model.end());
            return;
        }
        switch (random.nextInt(10)) {
            case 0:
                callRules(i);
                break;
            case 1:
            case 2:
                callMeters(i);
                break;
            case 3:
            case 4:
                callSales(i);
                break;
            case 5:
            case 6:
                callPermits(i);
                break;
            case 7:
                callCuts(i);
                break;
            default:
                callTold(i);
                break;
        }
    }

    private void callRules(int i) {
        int year = some(0, 19);
        if (random.nextInt(3) == 0) {
            int cap = random.nextInt(4) == 0 ? some(300, 400) : some(0, 400);
            int what = cap * 1000 + (random.nextBoolean() ? 0 : some(0, 100));
            int share = some(0, 100) * 100000 + some(0, 999) * 100 + some(0, 99);
            due(i + " rule(" + year + ", " + what + ", " + share + ")", real.rule(year, what, share),
                model.rule(year, what, share));
        } else {
            int what = some(0, 3);
            due(i + " ruled(" + year + ", " + what + ")", real.ruled(year, what), model.ruled(year, what));
        }
    }

    private void callMeters(int i) {
        int w = someWorks();
        int now = Math.min(19, model.count(0));
        if (random.nextInt(4) != 0) {
            int year = random.nextBoolean() ? now : some(0, now);
            int quarter = some(0, 3);
            int reading = random.nextInt(3) == 0 ? some(-1, 1) : some(0, 99);
            due(i + " meter(" + w + ", " + year + ", " + quarter + ", " + reading + ")",
                real.meter(w, year, quarter, reading), model.meter(w, year, quarter, reading));
        } else {
            int year = some(0, 19);
            due(i + " fouled(" + w + ", " + year + ")", real.fouled(w, year), model.fouled(w, year));
        }
    }

    private void callSales(int i) {
        int kind = random.nextInt(10);
        if (kind < 2) {
            due(i + " issue()", real.issue(), model.issue());
        } else if (kind == 2) {
            due(i + " auction()", real.auction(), model.auction());
        } else {
            int w = someWorks();
            int n = random.nextBoolean() ? some(1, 20) : some(1, 400);
            int price = random.nextBoolean() ? some(0, 12) : some(0, 999);
            due(i + " bid(" + w + ", " + n + ", " + price + ")", real.bid(w, n, price), model.bid(w, n, price));
        }
    }

    private void callPermits(int i) {
        int w = someWorks();
        int kind = random.nextInt(12);
        if (kind < 2) {
            int n = some(1, 100);
            due(i + " offset(" + w + ", " + n + ")", real.offset(w, n), model.offset(w, n));
        } else if (kind == 2) {
            int project = some(0, Math.max(0, model.count(10) - 1));
            due(i + " falses(" + project + ")", real.falses(project), model.falses(project));
        } else if (kind < 5) {
            int n = random.nextInt(5) == 0 ? someOf(w) : some(1, 3);
            due(i + " cancel(" + w + ", " + n + ")", real.cancel(w, n), model.cancel(w, n));
        } else if (kind == 5) {
            due(i + " works()", real.works(), model.works());
        } else {
            int to = someWorks();
            int n = someOf(w);
            int coins = some(0, 100000);
            due(i + " trade(" + w + ", " + to + ", " + n + ", " + coins + ")", real.trade(w, to, n, coins),
                model.trade(w, to, n, coins));
        }
    }

    private void callCuts(int i) {
        int n = random.nextBoolean() ? some(0, 200) : some(0, 4000);
        int w = someWorks();
        int cost = random.nextBoolean() ? some(0, 3) : some(0, 999);
        int tonnes = some(1, 99);
        switch (random.nextInt(4)) {
            case 0:
                due(i + " least(" + n + ")", real.least(n), model.least(n));
                break;
            case 1:
                due(i + " margin(" + n + ")", real.margin(n), model.margin(n));
                break;
            case 2:
                due(i + " cuts(" + n + ", " + w + ")", real.cuts(n, w), model.cuts(n, w));
                break;
            default:
                due(i + " cut(" + w + ", " + tonnes + ", " + cost + ")", real.cut(w, tonnes, cost),
                    model.cut(w, tonnes, cost));
                break;
        }
    }

    private void callTold(int i) {
        int w = someWorks();
        int number = some(0, Math.max(0, model.count(2) - 1));
        int what = some(0, 5);
        int counted = some(0, 10);
        due(i + " told(" + w + ", " + what + ")", real.told(w, what), model.told(w, what));
        due(i + " permit(" + number + ", " + what + ")", real.permit(number, what), model.permit(number, what));
        due(i + " count(" + counted + ")", real.count(counted), model.count(counted));
    }

    private void compareAll() {
        for (int what = 0; what <= 10; what++) {
            due("at last count " + what, real.count(what), model.count(what));
        }
        for (int w = 0; w < 10; w++) {
            for (int what = 0; what < 5; what++) {
                due("at last told " + w + " " + what, real.told(w, what), model.told(w, what));
            }
        }
        while (callsLeft > 0) {
            int p = some(0, Math.max(0, model.count(2) - 1));
            int what = random.nextInt(6);
            due("at last permit " + p + " " + what, real.permit(p, what), model.permit(p, what));
        }
    }
}
