/** Boundary cases of the last parts of the document's "Terms": a year's end, cuts, what is refused, NONE. */
public final class TermsThreeFourEdgesTest {
    private static final int NONE = FoulRights.NONE;
    private static final Edges EDGES = new Edges();

    public static void main(String[] args) throws ReflectiveOperationException {
        EDGES.run(TermsThreeFourEdgesTest.class);
    }

    /** A works that fouled 10 in a year of fine 3, holds so many permits, and was in debt so much. */
    private static FoulRights fouledTen(int holds, int debt) {
        FoulRights x = Steps.withWorks(1);
        Steps.readAll(x, 0, 0, debt / 4);
        x.meter(0, 0, 0, debt / 4 + debt % 4);
        x.end();
        x.rule(1, 0, Steps.share(0, 3, 0));
        Steps.readAll(x, 0, 1, 0);
        x.meter(0, 1, 2, 10);
        if (holds > 0) {
            x.offset(0, holds);
        }
        return x;
    }

    private static void eachWorksIsSettled() {
        EDGES.of("Terms", "A YEAR ends: WORKS by numbers");
        FoulRights none = new FoulRights();
        EDGES.due("no works", none.end(), 0);
        FoulRights x = Steps.withWorks(10);
        for (int works = 0; works < 10; works++) {
            Steps.readAll(x, works, 0, 0);
            x.meter(works, 0, works % 4, works);
        }
        EDGES.due("all ten", x.end(), 45);
        for (int works = 0; works < 10; works++) {
            EDGES.due("what lacks of " + works, x.told(works, 1), works);
        }
    }

    private static void needIsWhatWasFouledAndDebt() {
        EDGES.of("Terms", "NEED is what it FOULED in it, and its DEBT");
        FoulRights fouled = fouledTen(50, 0);
        fouled.end();
        EDGES.due("fouled alone", fouled.told(0, 3), 10);
        FoulRights both = fouledTen(50, 7);
        EDGES.due("a debt of 7", both.told(0, 1), 7);
        both.end();
        EDGES.due("fouled and debt", both.told(0, 3), 17);
        FoulRights debt = fouledTen(50, 7);
        debt.meter(0, 1, 2, 0);
        debt.end();
        EDGES.due("debt alone", debt.told(0, 3), 7);
        FoulRights nothing = fouledTen(50, 0);
        nothing.meter(0, 1, 2, 0);
        EDGES.due("no need", nothing.end(), 0);
        EDGES.due("none is used", nothing.told(0, 3), 0);
        FoulRights gaps = Steps.withWorks(1);
        gaps.offset(0, 50);
        gaps.end();
        EDGES.due("gaps are a need", gaps.told(0, 3), 40);
    }

    private static void aNeedOfThatYearAlone() {
        EDGES.of("Terms", "NEED is what it FOULED in it, and its DEBT");
        FoulRights x = Steps.withWorks(1);
        Steps.readAll(x, 0, 0, 1);
        EDGES.due("year 0", x.end(), 4);
        Steps.readAll(x, 0, 0, 99);
        Steps.readAll(x, 0, 1, 2);
        EDGES.due("year 0 is not looked at again", x.end(), 4 + 8);
    }

    private static void usedAreThoseOfTheLeastNumbers() {
        EDGES.of("Terms", "it USES as many PERMITS that it HOLDS (of the least numbers)");
        FoulRights x = Steps.withWorks(2);
        x.offset(0, 3);
        x.offset(1, 3);
        x.trade(0, 1, 1, 0);
        Steps.readAll(x, 0, 0, 0);
        Steps.readAll(x, 1, 0, 0);
        x.meter(1, 0, 0, 2);
        EDGES.due("nothing lacks", x.end(), 0);
        int[] states = {1, 0, 0, 1, 0, 0};
        for (int number = 0; number < 6; number++) {
            EDGES.due("used " + number, x.permit(number, 0), states[number]);
            EDGES.due("the year of " + number, x.permit(number, 3), states[number] == 1 ? 0 : NONE);
        }
        EDGES.due("the rest is held", x.told(1, 2), 2);
    }

    private static void usedAreTheLeastThoughTheyCameLast() {
        EDGES.of("Terms", "it USES as many PERMITS that it HOLDS (of the least numbers)");
        FoulRights x = Steps.withWorks(2);
        x.offset(0, 2);
        x.offset(1, 4);
        Steps.readAll(x, 0, 0, 0);
        Steps.readAll(x, 1, 0, 0);
        x.meter(1, 0, 0, 1);
        x.end();
        x.trade(0, 1, 1, 0);
        Steps.readAll(x, 0, 1, 0);
        Steps.readAll(x, 1, 1, 0);
        x.meter(1, 1, 3, 2);
        x.end();
        int[] years = {1, NONE, 0, 1, NONE, NONE};
        for (int number = 0; number < 6; number++) {
            EDGES.due("the year of " + number, x.permit(number, 3), years[number]);
        }
    }

    private static void usedOnesAreNotUsedAgain() {
        EDGES.of("Terms", "it USES as many PERMITS that it HOLDS (of the least numbers)");
        FoulRights x = Steps.houseHolds(1, 30, 0);
        x.offset(0, 12);
        x.cancel(0, 2);
        Steps.readAll(x, 0, 0, 1);
        EDGES.due("four of ten", x.end(), 0);
        Steps.readAll(x, 0, 1, 2);
        EDGES.due("six, though the house holds more", x.end(), 2);
        EDGES.due("used in all", x.told(0, 3), 10);
        EDGES.due("the house's stay", x.count(4), 30);
        EDGES.due("used in year 0 stays so", x.permit(35, 3), 0);
        EDGES.due("used in year 1", x.permit(36, 3), 1);
    }

    private static void allItHasIfTheseAreLess() {
        EDGES.of("Terms", "all it has if these are less");
        int[][] ends = {{0, 0, 10}, {1, 1, 9}, {9, 9, 1}, {10, 10, 0}, {11, 10, 0}};
        for (int[] e : ends) {
            FoulRights x = fouledTen(e[0], 0);
            EDGES.due("what lacks of " + e[0], x.end(), e[2]);
            EDGES.due("used of " + e[0], x.told(0, 3), e[1]);
            EDGES.due("held of " + e[0], x.told(0, 2), e[0] - e[1]);
        }
    }

    private static void whatLacksCostsTheFineEach() {
        EDGES.of("Terms", "what lacks costs the FINE each");
        int[][] ends = {{0, 30}, {9, 3}, {10, 0}, {11, 0}};
        for (int[] e : ends) {
            FoulRights x = fouledTen(e[0], 0);
            x.end();
            EDGES.due("coins of one that holds " + e[0], x.told(0, 0), -e[1]);
            EDGES.due("fines of one that holds " + e[0], x.told(0, 4), e[1]);
        }
        FoulRights x = fouledTen(0, 0);
        x.rule(1, 0, 0);
        EDGES.due("all lacks at a fine of 0", x.end(), 10);
        EDGES.due("a fine of 0", x.told(0, 0), 0);
        FoulRights top = fouledTen(0, 0);
        top.rule(1, 0, Steps.share(0, 999, 0));
        top.rule(2, 0, Steps.share(0, 5, 0));
        top.end();
        EDGES.due("the fine of the year that ends", top.told(0, 0), -9990);
        Steps.readAll(top, 0, 2, 0);
        top.end();
        EDGES.due("a debt is fined again", top.told(0, 4), 9990 + 50);
    }

    private static void theGreatestFinesOfAll() {
        EDGES.of("Terms", "what lacks costs the FINE each");
        FoulRights x = Steps.withWorks(10);
        x.rule(0, 0, Steps.share(0, 999, 0));
        for (int year = 0; year < 20; year++) {
            for (int works = 0; works < 10; works++) {
                x.meter(works, year, 0, 99);
            }
            x.end();
        }
        int eachYear = 99 + 3 * 109;
        EDGES.due("debt of twenty years", x.told(9, 1), 20 * eachYear);
        EDGES.due("fines of one", x.told(9, 4), 210 * eachYear * 999);
        EDGES.due("coins of one", x.told(0, 0), -210 * eachYear * 999);
        EDGES.due("fines of all", x.count(9), 10 * 210 * eachYear * 999);
    }

    private static void whatLacksIsItsDebtThen() {
        EDGES.of("Terms", "and is its DEBT then (0 if nothing lacks).");
        int[][] ends = {{0, 17}, {1, 16}, {7, 10}, {16, 1}, {17, 0}, {18, 0}};
        for (int[] e : ends) {
            FoulRights x = fouledTen(e[0], 7);
            EDGES.due("what lacks of " + e[0], x.end(), e[1]);
            EDGES.due("in place of a debt of 7", x.told(0, 1), e[1]);
        }
    }

    private static void nowIsOneMore() {
        EDGES.of("Terms", "NOW is one more.");
        FoulRights x = Steps.withWorks(1);
        Steps.endYears(x, 19);
        EDGES.due("the last year", x.count(0), 19);
        EDGES.due("it can be read", x.meter(0, 19, 0, 1), true);
        x.end();
        EDGES.due("behind the last year", x.count(0), 20);
        EDGES.refused("no further", new Past("behind year 19", y -> {
            y.works();
            Steps.endYears(y, 20);
        }), NONE, y -> y.end());
    }

    private static void cutsAreFourAtMost() {
        EDGES.of("Terms", "CUTS of a WORKS: at most 4");
        Past four = new Past("four cuts of two works", x -> {
            Steps.addWorks(x, 3);
            for (int i = 0; i < 4; i++) {
                x.cut(0, 2, 10 + i);
                x.cut(2, 3, 13 - i);
            }
        });
        EDGES.refused("a fifth", four, NONE, x -> x.cut(0, 1, 1));
        EDGES.refused("a fifth of the last works", four, NONE, x -> x.cut(2, 99, 0));
        FoulRights x = four.object();
        for (int i = 1; i <= 4; i++) {
            EDGES.due("four of another works", x.cut(1, 1, 1), i);
        }
        EDGES.due("no fifth of it", x.cut(1, 1, 1), NONE);
        EDGES.due("all of all", x.cuts(8 + 12 + 4, 1), 4);
    }

    private static void cutsHaveTonnesAndACostOfEach() {
        EDGES.of("Terms", "so many tonnes (1 .. 99), at so many COINS each (0 .. 999).");
        FoulRights x = Steps.withWorks(1);
        EDGES.due("1 tonne at 999", x.cut(0, 1, 999), 1);
        EDGES.due("99 tonnes at 0", x.cut(0, 99, 0), 2);
        EDGES.due("99 at 0", x.least(99), 0);
        EDGES.due("one at 999", x.least(100), 999);
        EDGES.due("no more", x.least(101), NONE);
        EDGES.due("99 tonnes at 999", x.cut(0, 99, 999), 3);
        EDGES.due("a hundred at 999", x.least(199), 99900);
        EDGES.refusedAnywhere("no tonnes", NONE, y -> y.cut(0, 0, 5));
        EDGES.refusedAnywhere("100 tonnes", NONE, y -> y.cut(0, 100, 5));
        EDGES.refusedAnywhere("a cost of -1", NONE, y -> y.cut(0, 5, -1));
        EDGES.refusedAnywhere("a cost of 1000", NONE, y -> y.cut(0, 5, 1000));
    }

    private static void leastIsTheLeastSum() {
        EDGES.of("Terms", "LEAST for n tonnes: the least sum of COINS by which CUTS of all WORKS together are n");
        FoulRights x = Steps.withWorks(3);
        EDGES.due("no cuts, no tonnes", x.least(0), 0);
        x.cut(0, 2, 50);
        x.cut(1, 3, 7);
        x.cut(2, 1, 20);
        x.cut(0, 4, 7);
        int[] sums = {0, 7, 14, 21, 28, 35, 42, 49, 69, 119, 169};
        for (int n = 0; n < sums.length; n++) {
            EDGES.due("least of " + n, x.least(n), sums[n]);
        }
        EDGES.due("more than all", x.least(11), NONE);
        x.cut(2, 1, 0);
        EDGES.due("a cheaper one comes later", x.least(2), 7);
        EDGES.due("all and one more", x.least(11), 169);
        x.end();
        EDGES.due("a year's end takes no cuts", x.least(11), 169);
    }

    private static void theGreatestLeast() {
        EDGES.of("Terms", "LEAST for n tonnes: the least sum of COINS by which CUTS of all WORKS together are n");
        FoulRights x = Steps.withWorks(10);
        for (int i = 0; i < 40; i++) {
            x.cut(i % 10, 99, 999);
        }
        EDGES.due("3960 tonnes at 999", x.least(3960), 3960 * 999);
        EDGES.due("all but one", x.least(3959), 3959 * 999);
        EDGES.due("one", x.least(1), 999);
        EDGES.due("one more than all", x.least(3961), NONE);
    }

    private static void theMarginIsTheGreatestCostOfThese() {
        EDGES.of("Terms", "the MARGIN is the greatest cost of one of these (0 of none).");
        FoulRights x = Steps.withWorks(3);
        EDGES.due("no cuts, no tonnes", x.margin(0), 0);
        x.cut(0, 2, 50);
        x.cut(1, 3, 7);
        x.cut(2, 1, 20);
        int[] costs = {0, 7, 7, 7, 20, 50, 50};
        for (int n = 0; n < costs.length; n++) {
            EDGES.due("margin of " + n, x.margin(n), costs[n]);
        }
        EDGES.due("more than all", x.margin(7), NONE);
        x.cut(2, 1, 0);
        EDGES.due("of one at 0", x.margin(1), 0);
        EDGES.due("of the next", x.margin(2), 7);
        EDGES.due("of none still", x.margin(0), 0);
    }

    private static void whatIsRefusedChangesNothing() {
        EDGES.of("Terms", "What is refused changes nothing.");
        for (Past past : Pasts.ANYWHERE) {
            String change = past.changedBy(TermsThreeFourEdgesTest::callAllThatIsRefused);
            EDGES.due("refused calls (" + past + ") " + change, change.isEmpty(), true);
        }
        EDGES.refused("an issue once more", Pasts.BUSY, NONE, x -> x.issue());
        EDGES.refused("an auction without permits", Pasts.NEW, NONE, x -> x.auction());
        EDGES.refused("an end behind the last", Pasts.BEHIND_LAST_YEAR, NONE, x -> x.end());
    }

    private static void callAllThatIsRefused(FoulRights x) {
        for (int number : Steps.outside(0, 2000)) {
            x.rule(number, 5000, 0);
            x.meter(number, 0, 0, 5);
            x.meter(0, number, 0, 5);
            x.bid(number, 1, 1);
            x.bid(0, number, 1);
            x.trade(number, 0, 1, 1);
            x.trade(0, number, 1, 1);
            x.trade(0, 1, number, 1);
            x.offset(number, 1);
            x.offset(0, number);
            x.falses(number);
            x.cancel(number, 1);
            x.cancel(0, number);
            x.cut(number, 1, 1);
            x.cut(0, number, 1);
            x.cut(0, 1, number);
        }
    }

    private static void whatIsAskedChangesNothing() {
        EDGES.of("Terms", "What is refused changes nothing.");
        for (Past past : Pasts.ANYWHERE) {
            String change = past.changedBy(TermsThreeFourEdgesTest::askAll);
            EDGES.due("questions (" + past + ") " + change, change.isEmpty(), true);
        }
    }

    private static void askAll(FoulRights x) {
        for (int i = -1; i < 21; i++) {
            x.ruled(i, Math.abs(i) % 5);
            x.fouled(Math.abs(i) % 5, i);
            x.permit(i, Math.abs(i) % 7);
            x.told(Math.abs(i) % 5, Math.abs(i) % 6);
            x.least(i);
            x.margin(i);
            x.cuts(i, Math.abs(i) % 5);
            x.count(i);
        }
    }

    private static void noneIsMinusOne() {
        EDGES.of("Terms", "The constants: `NONE = -1`: There is none; the HOUSE.");
        EDGES.due("NONE", FoulRights.NONE, -1);
        FoulRights x = Steps.houseHolds(1, 1, 0);
        EDGES.due("there is none", x.permit(0, 3), -1);
        EDGES.due("the house", x.permit(0, 1), -1);
        EDGES.refused("the house is no works", Pasts.BUSY, y -> y.trade(-1, 0, 1, 1));
        EDGES.refused("the house buys nothing", Pasts.BUSY, y -> y.trade(0, -1, 1, 1));
        EDGES.refused("the house cancels nothing", Pasts.BUSY, y -> y.cancel(-1, 1));
        EDGES.refused("the house is not told of", Pasts.BUSY, Integer.MIN_VALUE, y -> y.told(-1, 2));
    }
}
