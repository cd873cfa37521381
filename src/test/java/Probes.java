import java.util.ArrayList;
import java.util.List;

/**
 * All that can be asked of an object, in parts of at most some 250 calls. Some only look; others go on with it, as
 * bids, what was told to be false, or how many rules were told are seen by what later calls do alone.
 */
final class Probes {
    /** Asks an object, and adds each answer and a space. */
    interface Probe {
        void ask(FoulRights x, StringBuilder told);
    }

    private static final int[] CAPS = {1, 3, 8, 20, 60, 150, 400};

    private Probes() {
    }

    static List<Probe> of(Past past) {
        List<Probe> probes = new ArrayList<>();
        addLooks(probes, past.object().count(2), tonnesOf(past.object()));
        addGoingOn(probes);
        return probes;
    }

    private static void addLooks(List<Probe> probes, int permits, int tonnes) {
        probes.add(Probes::counts);
        probes.add(Probes::rules);
        probes.add(Probes::accounts);
        probes.add(Probes::fouled);
        for (int from = 0; from <= permits; from += 40) {
            int first = from;
            probes.add((x, told) -> permits(x, told, first));
        }
        for (int from = 0; from <= tonnes + 1; from += 20) {
            int first = from;
            probes.add((x, told) -> cuts(x, told, first));
        }
    }

    private static void addGoingOn(List<Probe> probes) {
        probes.add(Probes::worksToCome);
        probes.add(Probes::rulesToCome);
        probes.add(Probes::bidsToCome);
        probes.add(Probes::cutsToCome);
        probes.add(Probes::projectsToCome);
        probes.add(Probes::permitsToCome);
        probes.add(Probes::issueNow);
        probes.add(Probes::falseProjects);
        probes.add(Probes::yearsToCome);
        probes.add(Probes::leastNumbers);
        probes.add(Probes::auctionNow);
        for (int cap : CAPS) {
            probes.add((x, told) -> auctionOf(x, told, cap, false));
            probes.add((x, told) -> auctionOf(x, told, cap, true));
        }
    }

    private static void put(StringBuilder told, long answer) {
        told.append(answer).append(' ');
    }

    private static void put(StringBuilder told, boolean answer) {
        told.append(answer).append(' ');
    }

    /** The most tonnes that can be cut, found by halves, as they may be 3960. */
    private static int tonnesOf(FoulRights x) {
        int low = 0;
        int high = 4000;
        while (low < high) {
            int middle = (low + high + 1) / 2;
            if (x.least(middle) == FoulRights.NONE) {
                high = middle - 1;
            } else {
                low = middle;
            }
        }
        return low;
    }

    private static void counts(FoulRights x, StringBuilder told) {
        for (int what = -1; what <= 11; what++) {
            put(told, x.count(what));
        }
    }

    private static void rules(FoulRights x, StringBuilder told) {
        for (int year = 0; year < 20; year++) {
            for (int what = 0; what < 4; what++) {
                put(told, x.ruled(year, what));
            }
        }
    }

    private static void accounts(FoulRights x, StringBuilder told) {
        for (int works = 0; works < 10; works++) {
            for (int what = 0; what < 5; what++) {
                put(told, x.told(works, what));
            }
        }
    }

    private static void fouled(FoulRights x, StringBuilder told) {
        for (int works = 0; works < 10; works++) {
            for (int year = 0; year < 20; year++) {
                put(told, x.fouled(works, year));
            }
        }
    }

    private static void permits(FoulRights x, StringBuilder told, int first) {
        for (int number = first; number < first + 40; number++) {
            for (int what = 0; what < 6; what++) {
                put(told, x.permit(number, what));
            }
        }
    }

    private static void cuts(FoulRights x, StringBuilder told, int first) {
        for (int n = first; n < first + 20; n++) {
            put(told, x.least(n));
            put(told, x.margin(n));
            for (int works = 0; works < 10; works++) {
                put(told, x.cuts(n, works));
            }
        }
    }

    private static void worksToCome(FoulRights x, StringBuilder told) {
        for (int i = 0; i < 11; i++) {
            put(told, x.works());
        }
        accounts(x, told);
    }

    private static void rulesToCome(FoulRights x, StringBuilder told) {
        for (int i = 0; i < 31; i++) {
            put(told, x.rule(19, 1000 * i, i));
        }
        rules(x, told);
    }

    private static void bidsToCome(FoulRights x, StringBuilder told) {
        for (int i = 0; i < 41; i++) {
            put(told, x.bid(0, 1, 0));
        }
    }

    private static void cutsToCome(FoulRights x, StringBuilder told) {
        for (int works = 0; works < 10; works++) {
            for (int i = 0; i < 5; i++) {
                put(told, x.cut(works, 99, 998));
            }
        }
        put(told, tonnesOf(x));
    }

    private static void projectsToCome(FoulRights x, StringBuilder told) {
        for (int i = 0; i < 21; i++) {
            put(told, x.offset(0, 1));
        }
        counts(x, told);
    }

    private static void permitsToCome(FoulRights x, StringBuilder told) {
        for (int i = 0; i < 21; i++) {
            put(told, x.offset(0, 100));
        }
        for (int i = 0; i < 20; i++) {
            put(told, x.issue());
            put(told, x.end());
        }
        counts(x, told);
    }

    private static void issueNow(FoulRights x, StringBuilder told) {
        put(told, x.issue());
        counts(x, told);
        accounts(x, told);
        put(told, x.issue());
    }

    private static void falseProjects(FoulRights x, StringBuilder told) {
        for (int project = 0; project < 21; project++) {
            put(told, x.falses(project));
        }
        counts(x, told);
        accounts(x, told);
    }

    private static void yearsToCome(FoulRights x, StringBuilder told) {
        for (int i = 0; i < 21; i++) {
            put(told, x.end());
            put(told, x.count(5));
            put(told, x.count(9));
        }
        counts(x, told);
        accounts(x, told);
    }

    /** Which permits are the next to go is asked by taking them. */
    private static void leastNumbers(FoulRights x, StringBuilder told) {
        for (int works = 0; works < 10; works++) {
            put(told, x.cancel(works, 1));
            put(told, x.trade(works, 0, 1, 1));
            put(told, x.trade(works, 1, 1, 1));
        }
        for (int number = 0; number < 100; number++) {
            put(told, x.permit(number, 0));
            put(told, x.permit(number, 1));
        }
    }

    private static void auctionNow(FoulRights x, StringBuilder told) {
        put(told, x.auction());
        counts(x, told);
        accounts(x, told);
    }

    /** What bids were is seen by how many permits they get, and at which price, of few and of many. */
    private static void auctionOf(FoulRights x, StringBuilder told, int cap, boolean nextYear) {
        if (nextYear) {
            put(told, x.end());
        }
        put(told, x.rule(Math.min(19, x.count(0)), 1000 * cap, 0));
        put(told, x.issue());
        auctionNow(x, told);
    }
}
