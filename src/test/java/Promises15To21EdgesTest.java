/** Boundary cases of promises 15 to 21: permit, told, cut, least, margin, cuts, count. */
public final class Promises15To21EdgesTest {
    private static final int NONE = FoulRights.NONE;
    private static final int UNTOLD = -2147483648;
    private static final Edges EDGES = new Edges();

    /** Cuts of 1, 5, 2 and 99 tonnes: 107 in all. */
    private static final Past CUTS = new Past("107 tonnes of cuts", x -> {
        Steps.addWorks(x, 4);
        x.cut(0, 1, 40);
        x.cut(1, 5, 20);
        x.cut(3, 2, 20);
        x.cut(3, 99, 999);
    });

    public static void main(String[] args) throws ReflectiveOperationException {
        EDGES.run(Promises15To21EdgesTest.class);
    }

    private static void permitTellsItsState() {
        EDGES.of("Promise 15", "Of a PERMIT: 0 HELD (0), USED (1), CANCELLED (2)");
        FoulRights x = Steps.withWorks(1);
        Steps.readAll(x, 0, 0, 0);
        x.meter(0, 0, 0, 1);
        x.rule(0, Steps.what(1, 0), 0);
        x.offset(0, 4);
        x.issue();
        x.cancel(0, 1);
        x.end();
        int[] states = {2, 1, 0, 0, 0};
        for (int number = 0; number < 5; number++) {
            EDGES.due("state of " + number, x.permit(number, 0), states[number]);
        }
        x.falses(0);
        int[] after = {2, 1, 2, 2, 0};
        for (int number = 0; number < 5; number++) {
            EDGES.due("state of " + number + ", its project is false", x.permit(number, 0), after[number]);
        }
    }

    private static void permitTellsWhoHoldsItOrDidLast() {
        EDGES.of("Promise 15", "1 who HOLDS it, or did last (NONE: the HOUSE)");
        FoulRights x = Steps.houseHolds(10, 3, 0);
        EDGES.due("the house", x.permit(0, 1), NONE);
        x.bid(9, 1, 0);
        x.auction();
        EDGES.due("the tenth works", x.permit(0, 1), 9);
        EDGES.due("the house still", x.permit(1, 1), NONE);
        x.trade(9, 0, 1, 0);
        EDGES.due("the first works", x.permit(0, 1), 0);
        x.end();
        EDGES.due("used", x.permit(0, 0), 1);
        EDGES.due("who held it last", x.permit(0, 1), 0);
        x.offset(9, 2);
        x.cancel(9, 1);
        EDGES.due("who had it cancelled", x.permit(3, 1), 9);
        x.falses(0);
        EDGES.due("with whom it was cancelled", x.permit(4, 1), 9);
    }

    private static void permitTellsItsYear() {
        EDGES.of("Promise 15", "2 its YEAR");
        FoulRights x = Steps.withWorks(1);
        x.rule(0, Steps.what(1, 0), Steps.share(100, 0, 0));
        for (int year = 0; year < 20; year++) {
            x.issue();
            x.end();
        }
        for (int year = 0; year < 20; year++) {
            EDGES.due("of year " + year, x.permit(year, 2), year);
        }
    }

    private static void permitTellsTheYearOfItsUse() {
        EDGES.of("Promise 15", "3 the YEAR in which it was USED (NONE)");
        FoulRights x = Steps.withWorks(1);
        x.offset(0, 1);
        EDGES.due("not yet", x.permit(0, 3), NONE);
        x.end();
        EDGES.due("in year 0", x.permit(0, 3), 0);
        Steps.endYears(x, 18);
        x.offset(0, 2);
        x.cancel(0, 1);
        x.end();
        EDGES.due("in year 0 still", x.permit(0, 3), 0);
        EDGES.due("cancelled, never used", x.permit(1, 3), NONE);
        EDGES.due("in year 19", x.permit(2, 3), 19);
        x.falses(1);
        EDGES.due("in year 19, though its project is false", x.permit(2, 3), 19);
    }

    private static void permitTellsItsProject() {
        EDGES.of("Promise 15", "4 its PROJECT (NONE)");
        FoulRights x = Steps.houseHolds(2, 1, 0);
        for (int project = 0; project < 20; project++) {
            x.offset(project % 2, 1);
        }
        EDGES.due("an issued one has none", x.permit(0, 4), NONE);
        EDGES.due("the first project", x.permit(1, 4), 0);
        EDGES.due("the 20th project", x.permit(20, 4), 19);
        x.trade(0, 1, 1, 0);
        EDGES.due("a traded one has it still", x.permit(1, 4), 0);
        x.falses(0);
        EDGES.due("a false one has it still", x.permit(1, 4), 0);
    }

    private static void permitTellsHowOftenItWent() {
        EDGES.of("Promise 15", "5 how often it went from one to another one (from the HOUSE, too).");
        FoulRights x = Steps.houseHolds(2, 2, 0);
        EDGES.due("not yet", x.permit(0, 5), 0);
        x.bid(0, 1, 0);
        x.auction();
        EDGES.due("from the house", x.permit(0, 5), 1);
        EDGES.due("not the other one", x.permit(1, 5), 0);
        for (int i = 0; i < 100; i++) {
            x.trade(i % 2, 1 - i % 2, 1, 0);
        }
        EDGES.due("a hundred times more", x.permit(0, 5), 101);
        x.trade(0, 0, 1, 0);
        EDGES.due("a refused trade is none", x.permit(0, 5), 101);
        x.end();
        EDGES.due("its use is none", x.permit(0, 5), 101);
        x.offset(1, 2);
        x.cancel(1, 1);
        x.falses(0);
        EDGES.due("a coming and a cancelling are none", x.permit(2, 5), 0);
        EDGES.due("a false project is none", x.permit(3, 5), 0);
        FoulRights given = Steps.withWorks(1);
        given.end();
        given.rule(1, Steps.what(1, 0), Steps.share(100, 0, 0));
        given.issue();
        EDGES.due("a giving is none", given.permit(0, 5), 0);
    }

    private static void permitOfOthersIsUntold() {
        EDGES.of("Promise 15", "-2147483648 for others, or if there is none such.");
        EDGES.due("four came, the last is 3", Steps.houseHolds(1, 4, 0).permit(3, 0), 0);
        EDGES.due("there is no number 4", Steps.houseHolds(1, 4, 0).permit(4, 0), UNTOLD);
        for (int what : Steps.outside(0, 5)) {
            EDGES.refused("what " + what, Pasts.BUSY, UNTOLD, x -> x.permit(0, what));
        }
        int last = Pasts.BUSY.object().count(2) - 1;
        EDGES.due("the last one", Pasts.BUSY.object().permit(last, 4), 2);
        for (int number : Steps.outside(0, last)) {
            for (int what = 0; what < 6; what++) {
                int fact = what;
                EDGES.refused("number " + number, Pasts.BUSY, UNTOLD, x -> x.permit(number, fact));
            }
        }
        EDGES.refused("none has come", Pasts.NEW, UNTOLD, x -> x.permit(0, 1));
    }

    private static void toldTellsCoins() {
        EDGES.of("Promise 16", "Of a WORKS: 0 COINS");
        FoulRights x = Steps.withWorks(2);
        EDGES.due("none at first", x.told(0, 0), 0);
        x.offset(0, 100);
        for (int i = 0; i < 100; i++) {
            x.trade(0, 1, 1, 100000);
        }
        EDGES.due("ten million", x.told(0, 0), 10000000);
        EDGES.due("ten million below 0", x.told(1, 0), -10000000);
    }

    private static void toldTellsDebt() {
        EDGES.of("Promise 16", "1 DEBT");
        FoulRights x = Steps.withWorks(2);
        EDGES.due("none at first", x.told(0, 1), 0);
        x.offset(1, 39);
        x.end();
        EDGES.due("all of 40", x.told(0, 1), 40);
        EDGES.due("one of 40", x.told(1, 1), 1);
        x.falses(0);
        EDGES.due("39 false ones more", x.told(1, 1), 40);
    }

    private static void toldTellsPermitsThatItHolds() {
        EDGES.of("Promise 16", "2 PERMITS that it HOLDS");
        FoulRights x = Steps.houseHolds(2, 5, 0);
        EDGES.due("none at first", x.told(0, 2), 0);
        x.offset(0, 50);
        EDGES.due("came", x.told(0, 2), 50);
        x.bid(0, 4, 0);
        x.auction();
        EDGES.due("bought", x.told(0, 2), 54);
        x.trade(0, 1, 1, 0);
        EDGES.due("sold", x.told(0, 2), 53);
        x.cancel(0, 3);
        EDGES.due("cancelled", x.told(0, 2), 50);
        x.end();
        EDGES.due("40 used", x.told(0, 2), 10);
        x.falses(0);
        EDGES.due("false", x.told(0, 2), 0);
        EDGES.due("the other's one was used", x.told(1, 2), 0);
    }

    private static void toldTellsHowManyItUsedEver() {
        EDGES.of("Promise 16", "3 how many it USED ever");
        FoulRights x = Steps.withWorks(2);
        EDGES.due("none at first", x.told(0, 3), 0);
        x.offset(0, 41);
        x.end();
        EDGES.due("in year 0", x.told(0, 3), 40);
        x.end();
        EDGES.due("and year 1", x.told(0, 3), 41);
        x.falses(0);
        EDGES.due("though they were false", x.told(0, 3), 41);
        x.offset(0, 1);
        x.cancel(0, 1);
        EDGES.due("cancelled are not used", x.told(0, 3), 41);
        EDGES.due("the other one has none", x.told(1, 3), 0);
    }

    private static void toldTellsFinesPaidEver() {
        EDGES.of("Promise 16", "4 fines paid ever.");
        FoulRights x = Steps.withWorks(2);
        x.rule(0, 0, Steps.share(0, 999, 0));
        x.rule(1, 0, Steps.share(0, 1, 0));
        x.offset(1, 40);
        EDGES.due("none at first", x.told(0, 4), 0);
        x.end();
        EDGES.due("of year 0", x.told(0, 4), 40 * 999);
        EDGES.due("nothing lacked", x.told(1, 4), 0);
        x.end();
        EDGES.due("and of year 1", x.told(0, 4), 40 * 999 + 80);
        EDGES.due("of year 1", x.told(1, 4), 40);
        x.offset(0, 1);
        x.trade(0, 1, 1, 100000);
        EDGES.due("coins that it gets are none", x.told(0, 4), 40 * 999 + 80);
        EDGES.due("coins that it pays are none", x.told(1, 4), 40);
    }

    private static void toldOfOthersIsUntold() {
        EDGES.of("Promise 16", "-2147483648 for others, or if there is none such.");
        for (int what : Steps.outside(0, 4)) {
            EDGES.refusedAnywhere("what " + what, UNTOLD, x -> x.told(0, what));
        }
        for (int works : Steps.outside(0, 3)) {
            for (int what = 0; what < 5; what++) {
                int fact = what;
                EDGES.refused("works " + works, Pasts.BUSY, UNTOLD, x -> x.told(works, fact));
            }
        }
        FoulRights x = Steps.withWorks(9);
        EDGES.due("the tenth did not come", x.told(9, 0), UNTOLD);
        x.works();
        EDGES.due("the tenth came", x.told(9, 0), 0);
        EDGES.due("there is no eleventh", x.told(10, 0), UNTOLD);
    }

    private static void cutTellsHowManyTheWorksHas() {
        EDGES.of("Promise 17", "A CUT: how many the WORKS has");
        FoulRights x = Steps.withWorks(10);
        for (int i = 1; i <= 4; i++) {
            for (int works = 0; works < 10; works++) {
                EDGES.due("cut " + i + " of " + works, x.cut(works, 99, 999), i);
            }
        }
        EDGES.due("behind the last year, too", Pasts.BEHIND_LAST_YEAR.object().cut(2, 1, 0), 1);
    }

    private static void aCutOfNoWorksIsRefused() {
        EDGES.of("Promise 17", "NONE if there is none such");
        for (int works : Steps.outside(0, 3)) {
            EDGES.refusedAnywhere("works " + works, NONE, x -> x.cut(works, 1, 1));
        }
    }

    private static void aCutThatCannotBeIsRefused() {
        EDGES.of("Promise 17", "it can't be");
        for (int tonnes : Steps.outside(1, 99)) {
            EDGES.refusedAnywhere("tonnes " + tonnes, NONE, x -> x.cut(1, tonnes, 5));
        }
        for (int cost : Steps.outside(0, 999)) {
            EDGES.refusedAnywhere("cost " + cost, NONE, x -> x.cut(1, 5, cost));
        }
        FoulRights x = Steps.withWorks(1);
        EDGES.due("the least", x.cut(0, 1, 0), 1);
        EDGES.due("the greatest", x.cut(0, 99, 999), 2);
        x.cut(0, 100, 1);
        x.cut(0, 0, 1);
        EDGES.due("refused ones are not counted", x.cut(0, 1, 1), 3);
    }

    private static void aFifthCutIsRefused() {
        EDGES.of("Promise 17", "or it has 4.");
        Past full = new Past("four cuts of each of ten works", x -> {
            Steps.addWorks(x, 10);
            for (int i = 0; i < 40; i++) {
                x.cut(i % 10, 1 + i % 3, (i * 7) % 11);
            }
        });
        EDGES.refused("a fifth of the first", full, NONE, x -> x.cut(0, 1, 0));
        EDGES.refused("a fifth of the last", full, NONE, x -> x.cut(9, 99, 999));
        FoulRights x = full.object();
        x.end();
        EDGES.due("nor in a later year", x.cut(0, 1, 0), NONE);
    }

    private static void leastOfNTonnes() {
        EDGES.of("Promise 18", "LEAST for n tonnes");
        int[][] sums = {{0, 0}, {1, 20}, {7, 140}, {8, 180}, {9, 1179}, {106, 180 + 98 * 999}, {107, 180 + 99 * 999}};
        for (int[] s : sums) {
            EDGES.due("of " + s[0], CUTS.object().least(s[0]), s[1]);
        }
        EDGES.due("none of none", new FoulRights().least(0), 0);
        EDGES.due("behind the last year, too", Pasts.BEHIND_LAST_YEAR.object().least(3), 10);
    }

    private static void leastOfFewerThan0IsRefused() {
        EDGES.of("Promise 18", "NONE if n is below 0");
        int[] few = {-1, -2, -107, -256, -65536, Integer.MIN_VALUE, Integer.MIN_VALUE + 1};
        for (int n : few) {
            EDGES.refused("n " + n, CUTS, NONE, x -> x.least(n));
            EDGES.refused("n " + n + " without cuts", Pasts.NEW, NONE, x -> x.least(n));
        }
    }

    private static void leastOfMoreThanAllCutsIsRefused() {
        EDGES.of("Promise 18", "or more than all CUTS.");
        int[] many = {108, 109, 107 + 256, 107 + 65536, Integer.MAX_VALUE - 1, Integer.MAX_VALUE};
        for (int n : many) {
            EDGES.refused("n " + n, CUTS, NONE, x -> x.least(n));
        }
        EDGES.refused("one without cuts", Pasts.NEW, NONE, x -> x.least(1));
        FoulRights x = CUTS.object();
        x.cut(2, 1, 5);
        EDGES.due("one more is all then", x.least(108), 185 + 99 * 999);
        EDGES.due("no other one", x.least(109), NONE);
    }

    private static void marginOfNTonnes() {
        EDGES.of("Promise 19", "The MARGIN");
        int[][] costs = {{0, 0}, {1, 20}, {5, 20}, {6, 20}, {7, 20}, {8, 40}, {9, 999}, {107, 999}};
        for (int[] c : costs) {
            EDGES.due("of " + c[0], CUTS.object().margin(c[0]), c[1]);
        }
        EDGES.due("0 of none", new FoulRights().margin(0), 0);
        FoulRights x = Steps.withWorks(1);
        x.cut(0, 2, 0);
        EDGES.due("0 of some", x.margin(2), 0);
    }

    private static void marginIsNoneLikewise() {
        EDGES.of("Promise 19", "NONE likewise.");
        for (int n : Steps.outside(0, 107)) {
            EDGES.refused("n " + n, CUTS, NONE, x -> x.margin(n));
        }
        EDGES.refused("one without cuts", Pasts.NEW, NONE, x -> x.margin(1));
        EDGES.refused("less than none without cuts", Pasts.NEW, NONE, x -> x.margin(-1));
    }

    private static void cutsOfLikeCostsAreOfTheLesserWorksFirst() {
        EDGES.of("Promise 20", "What a WORKS cuts by it (of CUTS of like costs those of the lesser WORKS first)");
        int[][] parts = {
            {0, 0, 0, 0, 0}, {1, 0, 1, 0, 0}, {5, 0, 5, 0, 0}, {6, 0, 5, 0, 1}, {7, 0, 5, 0, 2}, {8, 1, 5, 0, 2},
            {9, 1, 5, 0, 3}, {107, 1, 5, 0, 101}};
        for (int[] p : parts) {
            for (int works = 0; works < 4; works++) {
                EDGES.due("of " + p[0] + ", works " + works, CUTS.object().cuts(p[0], works), p[1 + works]);
            }
        }
    }

    private static void cutsOfLikeCostsInWhateverOrderTheyCame() {
        EDGES.of("Promise 20", "What a WORKS cuts by it (of CUTS of like costs those of the lesser WORKS first)");
        int[][] orders = {{0, 1, 2}, {0, 2, 1}, {1, 0, 2}, {1, 2, 0}, {2, 0, 1}, {2, 1, 0}};
        for (int[] order : orders) {
            FoulRights x = Steps.withWorks(3);
            for (int works : order) {
                x.cut(works, 2, 10);
            }
            x.cut(order[0], 1, 10);
            int first = order[0] == 0 ? 3 : 2;
            int second = order[0] == 1 ? 3 : 2;
            EDGES.due("the first of all", x.cuts(first, 0), first);
            EDGES.due("none of the second", x.cuts(first, 1), 0);
            EDGES.due("one of the second", x.cuts(first + 1, 1), 1);
            EDGES.due("all of the second", x.cuts(first + second, 1), second);
            EDGES.due("none of the third", x.cuts(first + second, 2), 0);
            EDGES.due("one of the third", x.cuts(first + second + 1, 2), 1);
        }
    }

    private static void cutsOfFortyCuts() {
        EDGES.of("Promise 20", "What a WORKS cuts by it (of CUTS of like costs those of the lesser WORKS first)");
        FoulRights x = Steps.withWorks(10);
        for (int i = 0; i < 40; i++) {
            x.cut(9 - i % 10, 1 + i % 10, 8);
        }
        for (int works = 0; works < 10; works++) {
            EDGES.due("of all, works " + works, x.cuts(220, works), 4 * (10 - works));
        }
        EDGES.due("all but one of the last", x.cuts(219, 9), 3);
        EDGES.due("all of the last but one", x.cuts(219, 8), 8);
        EDGES.due("none of the last", x.cuts(216, 9), 0);
    }

    private static void cutsAreNoneLikewise() {
        EDGES.of("Promise 20", "NONE likewise");
        for (int n : Steps.outside(0, 107)) {
            EDGES.refused("n " + n, CUTS, NONE, x -> x.cuts(n, 0));
            EDGES.refused("n " + n + ", of a works without cuts", CUTS, NONE, x -> x.cuts(n, 2));
        }
        EDGES.refused("one without cuts", Pasts.NEW, NONE, x -> x.cuts(1, 0));
    }

    private static void cutsOfNoWorksAreNone() {
        EDGES.of("Promise 20", "or if there is none such.");
        for (int works : Steps.outside(0, 3)) {
            EDGES.refused("works " + works, CUTS, NONE, x -> x.cuts(1, works));
            EDGES.refusedAnywhere("works " + works + ", no tonnes", NONE, x -> x.cuts(0, works));
        }
        EDGES.due("the last works", CUTS.object().cuts(0, 3), 0);
    }

    private static void countTellsEachOfEleven() {
        EDGES.of("Promise 21", "0 NOW, 1 WORKS, 2 PERMITS, 3 HELD by WORKS, 4 by the HOUSE, 5 USED, 6 CANCELLED, "
            + "7 BIDS, 8 what AUCTIONS brought, 9 all fines, 10 PROJECTS.");
        FoulRights x = Steps.houseHolds(3, 20, 2);
        x.rule(0, Steps.what(20, 0), Steps.share(0, 3, 2));
        x.bid(0, 5, 9);
        x.auction();
        x.offset(1, 50);
        x.offset(2, 4);
        x.cancel(1, 6);
        x.bid(2, 1, 1);
        x.bid(2, 1, 1);
        x.bid(2, 1, 1);
        x.end();
        int[] want = {1, 3, 74, 4, 15, 49, 6, 3, 10, 213, 2};
        for (int what = 0; what < want.length; what++) {
            EDGES.due("count " + what, x.count(what), want[what]);
        }
        EDGES.due("six were cancelled, forty used", x.falses(0), 46);
        int[] after = {1, 3, 74, 0, 15, 49, 10, 3, 10, 213, 2};
        for (int what = 0; what < after.length; what++) {
            EDGES.due("behind a false project, count " + what, x.count(what), after[what]);
        }
        x.auction();
        EDGES.due("bids below the floor are gone", x.count(7), 0);
        EDGES.due("they bring nothing", x.count(8), 10);
    }

    private static void countAtItsGreatest() {
        EDGES.of("Promise 21", "0 NOW, 1 WORKS, 2 PERMITS, 3 HELD by WORKS, 4 by the HOUSE, 5 USED, 6 CANCELLED, "
            + "7 BIDS, 8 what AUCTIONS brought, 9 all fines, 10 PROJECTS.");
        FoulRights x = Steps.withWorks(10);
        x.rule(0, Steps.what(400, 0), Steps.share(0, 0, 0));
        for (int year = 0; year < 5; year++) {
            x.issue();
            x.bid(year, 400, 999);
            x.auction();
            x.cancel(year, 400);
            x.end();
        }
        for (int i = 0; i < 20; i++) {
            x.offset(i % 10, 100);
        }
        for (int i = 0; i < 40; i++) {
            x.bid(i % 10, 1, 1);
        }
        Steps.endYears(x, 15);
        int[] want = {20, 10, 4000, 0, 0, 2000, 2000, 40, 2000 * 999, 0, 20};
        for (int what = 0; what < want.length; what++) {
            EDGES.due("count " + what, x.count(what), want[what]);
        }
    }

    private static void countOfOthersIsNone() {
        EDGES.of("Promise 21", "NONE for others.");
        for (int what : Steps.outside(0, 10)) {
            EDGES.refusedAnywhere("what " + what, NONE, x -> x.count(what));
        }
    }
}
