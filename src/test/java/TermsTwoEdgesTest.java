/** Boundary cases of the document's second part of "Terms": permits, issues, auctions, trades, offsets. */
public final class TermsTwoEdgesTest {
    private static final int NONE = FoulRights.NONE;
    private static final int UNTOLD = Integer.MIN_VALUE;
    private static final int HELD = 0;
    private static final int USED = 1;
    private static final int CANCELLED = 2;
    private static final Edges EDGES = new Edges();

    public static void main(String[] args) throws ReflectiveOperationException {
        EDGES.run(TermsTwoEdgesTest.class);
    }

    /** Works that read so much in each quarter of year 0, and a rule by which so many are given in year 1. */
    private static FoulRights toGive(int n, int... readings) {
        FoulRights x = Steps.withWorks(readings.length);
        x.rule(1, Steps.what(n, 0), Steps.share(100, 0, 0));
        for (int works = 0; works < readings.length; works++) {
            Steps.readAll(x, works, 0, readings[works]);
        }
        x.end();
        return x;
    }

    private static void dueHeld(String what, FoulRights x, int... want) {
        for (int works = 0; works < want.length; works++) {
            EDGES.due(what + ", works " + works + " holds", x.told(works, 2), want[works]);
        }
    }

    private static void dueHolders(String what, FoulRights x, int first, int... want) {
        for (int i = 0; i < want.length; i++) {
            EDGES.due(what + ", who holds " + (first + i), x.permit(first + i, 1), want[i]);
        }
    }

    private static void permitsHaveNumbersAsTheyCome() {
        EDGES.of("Terms", "PERMITS have numbers as they come, at most 4000");
        FoulRights x = Steps.withWorks(2);
        x.rule(0, Steps.what(3, 0), 0);
        EDGES.due("none is there", x.permit(0, 0), UNTOLD);
        x.offset(1, 2);
        x.issue();
        x.offset(0, 1);
        dueHolders("as they come", x, 0, 1, 1, NONE, NONE, NONE, 0);
        EDGES.due("no more came", x.permit(6, 0), UNTOLD);
        EDGES.due("how many", x.count(2), 6);
    }

    private static void permitsAre4000AtMost() {
        EDGES.of("Terms", "PERMITS have numbers as they come, at most 4000");
        Past full = new Past("4000 permits", x -> {
            Steps.addWorks(x, 2);
            x.rule(0, Steps.what(400, 0), 0);
            x.rule(10, Steps.what(1, 0), 0);
            Steps.issueYears(x, 10);
            x.end();
        });
        EDGES.due("just 4000", full.object().count(2), 4000);
        EDGES.due("the last one", full.object().permit(3999, 2), 9);
        EDGES.due("no other one", full.object().permit(4000, 2), UNTOLD);
        EDGES.refused("an issue of one", full, NONE, x -> x.issue());
        EDGES.refused("an offset of one", full, NONE, x -> x.offset(0, 1));
    }

    private static void aPermitIsHeldUsedOrCancelled() {
        EDGES.of("Terms", "each is HELD by a WORKS or the HOUSE, USED or CANCELLED "
            + "(by whom it was held last stays told)");
        FoulRights x = Steps.houseHolds(2, 5, 0);
        Steps.readAll(x, 1, 0, 0);
        x.meter(1, 0, 3, 1);
        x.bid(0, 4, 0);
        x.auction();
        x.trade(0, 1, 3, 0);
        x.cancel(1, 1);
        x.offset(1, 1);
        Steps.readAll(x, 0, 0, 0);
        x.end();
        x.falses(0);
        int[] states = {CANCELLED, USED, HELD, HELD, HELD, CANCELLED};
        int[] holders = {1, 1, 1, 0, NONE, 1};
        for (int number = 0; number < 6; number++) {
            EDGES.due("state of " + number, x.permit(number, 0), states[number]);
            EDGES.due("holder of " + number, x.permit(number, 1), holders[number]);
        }
        x.trade(1, 0, 1, 0);
        EDGES.due("a used one stays with its last holder", x.permit(1, 1), 1);
        EDGES.due("a held one went", x.permit(2, 1), 0);
        EDGES.due("held by works", x.count(3), 2);
        EDGES.due("held by the house", x.count(4), 1);
    }

    private static void aPermitIsOfTheYearInWhichItCame() {
        EDGES.of("Terms", "of the YEAR in which it came.");
        FoulRights x = Steps.houseHolds(2, 1, 0);
        Steps.endYears(x, 19);
        x.issue();
        x.offset(1, 1);
        x.trade(1, 0, 1, 0);
        x.bid(1, 2, 0);
        x.auction();
        x.end();
        EDGES.due("issued in year 0", x.permit(0, 2), 0);
        EDGES.due("issued in year 19", x.permit(1, 2), 19);
        EDGES.due("an offset of year 19", x.permit(2, 2), 19);
    }

    private static void anIssueIsDoneOnceAYear() {
        EDGES.of("Terms", "To ISSUE (once a YEAR)");
        Past issued = new Past("an issue was done", x -> {
            Steps.addWorks(x, 2);
            x.rule(0, Steps.what(5, 0), 0);
            x.issue();
        });
        EDGES.refused("a second one", issued, NONE, x -> x.issue());
        Past issuedNone = new Past("an issue of none was done", x -> {
            x.issue();
            x.rule(0, Steps.what(5, 0), 0);
        });
        EDGES.refused("a second one, behind a first of none", issuedNone, NONE, x -> x.issue());
        FoulRights x = issued.object();
        x.end();
        EDGES.due("in the next year", x.issue(), 5);
        EDGES.due("once in the next year", x.issue(), NONE);
        x.end();
        x.end();
        EDGES.due("a year without one makes no second one", x.issue(), 5);
        EDGES.due("a year without one makes no second one", x.issue(), NONE);
    }

    private static void asManyAsTheCapCome() {
        EDGES.of("Terms", "as many as the CAP come");
        int[] caps = {0, 1, 2, 399, 400};
        for (int cap : caps) {
            FoulRights x = Steps.withWorks(1);
            x.rule(0, Steps.what(cap, 0), 0);
            EDGES.due("cap " + cap, x.issue(), cap);
            EDGES.due("permits of cap " + cap, x.count(2), cap);
        }
        FoulRights x = new FoulRights();
        x.rule(0, Steps.what(400, 50), 0);
        x.rule(3, Steps.what(7, 0), 0);
        int[] come = {400, 200, 100, 7};
        for (int year = 0; year < 4; year++) {
            EDGES.due("the cap of year " + year, x.issue(), come[year]);
            x.end();
        }
    }

    private static void theShareOfTheCapIsCut() {
        EDGES.of("Terms", "first CAP times SHARE by 100 (cut) are GIVEN");
        int[][] given = {{1, 99, 0}, {1, 100, 1}, {3, 33, 0}, {3, 34, 1}, {99, 1, 0}, {100, 1, 1}, {199, 1, 1},
            {199, 50, 99}, {199, 99, 197}, {400, 0, 0}, {400, 99, 396}, {400, 100, 400}, {0, 100, 0}};
        for (int[] g : given) {
            FoulRights x = Steps.withWorks(1);
            x.rule(1, Steps.what(g[0], 0), Steps.share(g[1], 0, 0));
            x.end();
            EDGES.due("cap " + g[0] + ", share " + g[1], x.issue(), g[0]);
            EDGES.due("given of cap " + g[0] + ", share " + g[1], x.told(0, 2), g[2]);
            EDGES.due("not given", x.count(4), g[0] - g[2]);
        }
    }

    private static void theCapAndTheShareAreThoseOfNow() {
        EDGES.of("Terms", "first CAP times SHARE by 100 (cut) are GIVEN");
        FoulRights x = Steps.withWorks(1);
        x.rule(0, Steps.what(100, 0), Steps.share(10, 0, 0));
        x.rule(1, Steps.what(10, 0), Steps.share(70, 0, 0));
        x.rule(2, Steps.what(50, 0), Steps.share(20, 0, 0));
        x.end();
        EDGES.due("the cap of year 1", x.issue(), 10);
        dueHeld("70 of 100 of 10", x, 7);
    }

    private static void permitsAreGivenByTheYearAhead() {
        EDGES.of("Terms", "by what WORKS FOULED in the YEAR ahead");
        FoulRights x = Steps.withWorks(3);
        x.rule(0, Steps.what(12, 0), Steps.share(100, 0, 0));
        Steps.readAll(x, 0, 0, 9);
        Steps.readAll(x, 1, 0, 0);
        Steps.readAll(x, 2, 0, 0);
        x.end();
        Steps.readAll(x, 0, 1, 0);
        Steps.readAll(x, 1, 1, 99);
        Steps.readAll(x, 2, 1, 0);
        x.issue();
        dueHeld("by year 0, not by year 1", x, 12, 0, 0);
        x.end();
        x.meter(1, 1, 0, 0);
        x.meter(1, 1, 1, 0);
        x.meter(1, 1, 2, 0);
        x.meter(1, 1, 3, 1);
        Steps.readAll(x, 2, 1, 1);
        x.meter(2, 1, 0, 0);
        x.issue();
        EDGES.due("by year 1 as it is read now", x.told(1, 2), 3);
        EDGES.due("by year 1 as it is read now", x.told(2, 2), 9);
    }

    private static void permitsAreGivenByGapsToo() {
        EDGES.of("Terms", "by what WORKS FOULED in the YEAR ahead");
        FoulRights x = Steps.withWorks(1);
        x.rule(1, Steps.what(10, 0), Steps.share(100, 0, 0));
        Steps.readAll(x, 0, 0, 40);
        x.end();
        x.works();
        x.issue();
        dueHeld("160 tonnes, and 40 of four gaps", x, 8, 2);
    }

    private static void noneIsGivenInYear0() {
        EDGES.of("Terms", "(in YEAR 0, or if all FOULED 0 together: none is GIVEN)");
        FoulRights x = Steps.withWorks(2);
        Steps.readAll(x, 1, 0, 99);
        x.rule(0, Steps.what(400, 0), Steps.share(100, 0, 0));
        EDGES.due("all come", x.issue(), 400);
        dueHeld("none is given", x, 0, 0);
        EDGES.due("the house has all", x.count(4), 400);
    }

    private static void noneIsGivenIfAllFouled0() {
        EDGES.of("Terms", "(in YEAR 0, or if all FOULED 0 together: none is GIVEN)");
        FoulRights x = toGive(7, 0, 0, 0);
        EDGES.due("all come", x.issue(), 7);
        dueHeld("none is given", x, 0, 0, 0);
        EDGES.due("the house has all", x.count(4), 7);
        FoulRights noWorks = toGive(7);
        EDGES.due("no works, all come", noWorks.issue(), 7);
        EDGES.due("no works, the house has all", noWorks.count(4), 7);
        FoulRights one = toGive(7, 0, 0, 0);
        one.meter(2, 0, 1, 1);
        EDGES.due("one tonne, all come", one.issue(), 7);
        dueHeld("one tonne of all is enough", one, 0, 0, 7);
        EDGES.due("one tonne, the house has none", one.count(4), 0);
    }

    private static void eachIsGivenItsPartCut() {
        EDGES.of("Terms", "each so many times what it FOULED by all (cut)");
        FoulRights x = toGive(10, 1, 2, 7);
        x.issue();
        dueHeld("nothing is cut off", x, 1, 2, 7);
        FoulRights y = toGive(400, 99, 99, 99, 99, 99, 99, 99, 99, 99, 99);
        y.issue();
        dueHeld("ten of the greatest", y, 40, 40, 40, 40, 40, 40, 40, 40, 40, 40);
        FoulRights z = toGive(3, 98, 1, 1);
        z.issue();
        dueHeld("2.94, 0.03 and 0.03", z, 3, 0, 0);
    }

    private static void oneMoreWhereMostWasCutOff() {
        EDGES.of("Terms", "and one more each, of those of which most was cut off");
        FoulRights x = toGive(5, 1, 2, 4);
        x.issue();
        dueHeld("0.71, 1.43 and 2.86: two more", x, 1, 1, 3);
        FoulRights y = toGive(4, 1, 2, 4);
        y.issue();
        dueHeld("0.57, 1.14 and 2.29: one more", y, 1, 1, 2);
        FoulRights z = toGive(2, 0, 3, 3, 3);
        z.issue();
        dueHeld("nothing was cut off of the first", z, 0, 1, 1, 0);
    }

    private static void ofLikeCutsTheLesserNumberTillAllAreGiven() {
        EDGES.of("Terms", "(of like ones the lesser number), till all are GIVEN");
        FoulRights two = toGive(3, 5, 5);
        two.issue();
        dueHeld("1.5 each", two, 2, 1);
        FoulRights four = toGive(2, 5, 5, 5, 5);
        four.issue();
        dueHeld("0.5 each", four, 1, 1, 0, 0);
        FoulRights nine = toGive(9, 5, 5, 5, 5, 5, 5, 5, 5, 5, 5);
        nine.issue();
        dueHeld("0.9 each", nine, 1, 1, 1, 1, 1, 1, 1, 1, 1, 0);
        FoulRights nineteen = toGive(19, 5, 5, 5, 5, 5, 5, 5, 5, 5, 5);
        nineteen.issue();
        dueHeld("1.9 each", nineteen, 2, 2, 2, 2, 2, 2, 2, 2, 2, 1);
        FoulRights first = toGive(1, 5, 5, 5, 5, 5, 5, 5, 5, 5, 5);
        first.issue();
        dueHeld("0.1 each", first, 1, 0, 0, 0, 0, 0, 0, 0, 0, 0);
        EDGES.due("no more than are to be given", first.count(2), 1);
        FoulRights greater = toGive(2, 3, 1);
        greater.issue();
        dueHeld("1.5 and 0.5", greater, 2, 0);
        FoulRights lesser = toGive(2, 1, 3);
        lesser.issue();
        dueHeld("0.5 and 1.5", lesser, 1, 1);
        FoulRights last = toGive(3, 4, 3, 3, 4);
        last.issue();
        dueHeld("0.86, 0.64, 0.64 and 0.86", last, 1, 1, 0, 1);
    }

    private static void givenOnesComeWorksByWorks() {
        EDGES.of("Terms", "they come WORKS by WORKS.");
        FoulRights x = toGive(7, 2, 0, 4, 1);
        x.offset(3, 1);
        x.issue();
        dueHolders("by works, behind what was there", x, 0, 3, 0, 0, 2, 2, 2, 2, 3);
        EDGES.due("given is no going", x.permit(1, 5), 0);
    }

    private static void theRestIsTheHouses() {
        EDGES.of("Terms", "The rest is the HOUSE's.");
        FoulRights x = Steps.withWorks(2);
        x.rule(1, Steps.what(5, 0), Steps.share(79, 0, 0));
        x.end();
        x.issue();
        dueHolders("three are given, two are left", x, 0, 0, 0, 1, NONE, NONE);
        EDGES.due("how many", x.count(4), 2);
        FoulRights all = toGive(5, 1, 1);
        all.issue();
        EDGES.due("there is no rest", all.count(4), 0);
        EDGES.due("an auction of no rest", all.auction(), NONE);
    }

    private static void aBidIsHowManyAndThePriceForOne() {
        EDGES.of("Terms", "BIDS of WORKS: how many, at which price for one.");
        FoulRights x = Steps.houseHolds(2, 3, 0);
        x.bid(1, 3, 50);
        EDGES.due("the price is for one", x.auction(), 50);
        EDGES.due("three of them", x.told(1, 0), -150);
        EDGES.due("how many", x.told(1, 2), 3);
        FoulRights y = Steps.houseHolds(1, 400, 0);
        y.bid(0, 400, 999);
        EDGES.due("the greatest bid", y.auction(), 999);
        EDGES.due("400 at 999", y.told(0, 0), -399600);
    }

    private static void aBidBelowTheFloorGetsNone() {
        EDGES.of("Terms", "AUCTION: BIDS whose price isn't below the FLOOR");
        FoulRights x = Steps.houseHolds(3, 10, 7);
        x.bid(0, 2, 6);
        x.bid(1, 2, 7);
        x.bid(2, 2, 8);
        EDGES.due("the floor", x.auction(), 7);
        dueHeld("6, 7 and 8 at a floor of 7", x, 0, 2, 2);
        EDGES.due("none is paid for none", x.told(0, 0), 0);
        FoulRights nought = Steps.houseHolds(1, 2, 0);
        nought.bid(0, 1, 0);
        EDGES.due("a floor of 0", nought.auction(), 0);
        dueHeld("a price of 0", nought, 1);
        FoulRights top = Steps.houseHolds(2, 2, 99);
        top.bid(0, 1, 98);
        top.bid(1, 1, 99);
        EDGES.due("a floor of 99", top.auction(), 99);
        dueHeld("98 and 99 at a floor of 99", top, 0, 1);
    }

    private static void theFloorIsThatOfNow() {
        EDGES.of("Terms", "AUCTION: BIDS whose price isn't below the FLOOR");
        FoulRights x = Steps.houseHolds(1, 10, 3);
        x.rule(1, 0, Steps.share(0, 0, 9));
        x.bid(0, 1, 8);
        EDGES.due("the floor of year 0", x.auction(), 3);
        x.end();
        x.bid(0, 1, 8);
        EDGES.due("the floor of year 1", x.auction(), 9);
        EDGES.due("8 is below it", x.told(0, 2), 0);
    }

    private static void bidsAreServedByPrice() {
        EDGES.of("Terms", "by price (the greatest first), of like ones as they came");
        FoulRights x = Steps.houseHolds(4, 9, 0);
        x.bid(0, 2, 5);
        x.bid(1, 2, 9);
        x.bid(2, 2, 5);
        x.bid(3, 1, 7);
        x.bid(0, 1, 9);
        EDGES.due("one of the house's is left", x.auction(), 0);
        dueHolders("9, 9, 7, 5 and 5", x, 0, 1, 1, 0, 3, 0, 0, 2, 2, NONE);
    }

    private static void bidsOfLikePricesAreServedAsTheyCame() {
        EDGES.of("Terms", "by price (the greatest first), of like ones as they came");
        FoulRights x = Steps.houseHolds(3, 4, 0);
        x.bid(2, 1, 5);
        x.bid(0, 1, 5);
        x.bid(1, 1, 5);
        x.bid(2, 1, 5);
        x.bid(0, 1, 5);
        EDGES.due("the price of all", x.auction(), 5);
        dueHolders("as they came, not by number", x, 0, 2, 0, 1, 2);
    }

    private static void bidsGetWhatTheyWantWhileTheHouseHoldsAny() {
        EDGES.of("Terms", "each gets what it wants, as long as the HOUSE HOLDS PERMITS");
        int[][] held = {{1, 1, 0, 0}, {3, 3, 0, 0}, {4, 3, 1, 0}, {5, 3, 2, 0}, {6, 3, 2, 1}, {7, 3, 2, 2},
            {8, 3, 2, 2}};
        for (int[] h : held) {
            FoulRights x = Steps.houseHolds(3, h[0], 0);
            x.bid(0, 3, 30);
            x.bid(1, 2, 20);
            x.bid(2, 2, 10);
            x.auction();
            dueHeld("of " + h[0], x, h[1], h[2], h[3]);
        }
        FoulRights x = Steps.houseHolds(1, 1, 0);
        x.bid(0, 400, 3);
        EDGES.due("400 wanted, one is there", x.auction(), 3);
        EDGES.due("one is got", x.told(0, 2), 1);
        EDGES.due("one is paid for", x.told(0, 0), -3);
    }

    private static void theHousesLeastNumbersGoFirst() {
        EDGES.of("Terms", "(those of the least numbers first).");
        FoulRights x = Steps.withWorks(2);
        x.rule(0, Steps.what(3, 0), 0);
        x.offset(1, 2);
        x.issue();
        x.offset(1, 1);
        x.bid(0, 2, 1);
        x.auction();
        dueHolders("behind the offset's", x, 0, 1, 1, 0, 0, NONE, 1);
        Steps.readAll(x, 0, 0, 0);
        Steps.readAll(x, 1, 0, 0);
        x.end();
        x.issue();
        x.bid(0, 2, 1);
        x.auction();
        dueHolders("one of year 0, then of year 1", x, 4, 0, 1, 0, NONE, NONE);
    }

    private static void thePriceIsOfTheLastThatGotAny() {
        EDGES.of("Terms", "The PRICE is that of the last one that got any, if the HOUSE HOLDS none then");
        FoulRights just = Steps.houseHolds(3, 5, 2);
        just.bid(0, 3, 30);
        just.bid(1, 2, 20);
        just.bid(2, 2, 10);
        EDGES.due("the second took the last one", just.auction(), 20);
        FoulRights part = Steps.houseHolds(3, 6, 2);
        part.bid(0, 3, 30);
        part.bid(1, 2, 20);
        part.bid(2, 2, 10);
        EDGES.due("the third got a part", part.auction(), 10);
        FoulRights first = Steps.houseHolds(2, 1, 2);
        first.bid(0, 1, 30);
        first.bid(1, 1, 30);
        EDGES.due("the first took all", first.auction(), 30);
        FoulRights floor = Steps.houseHolds(2, 2, 2);
        floor.bid(0, 1, 30);
        floor.bid(1, 1, 2);
        EDGES.due("the last one's is the floor", floor.auction(), 2);
    }

    private static void thePriceIsElseTheFloor() {
        EDGES.of("Terms", "else the FLOOR.");
        FoulRights left = Steps.houseHolds(2, 6, 2);
        left.bid(0, 3, 30);
        left.bid(1, 2, 20);
        EDGES.due("one is left", left.auction(), 2);
        EDGES.due("the floor is paid", left.told(0, 0), -6);
        FoulRights none = Steps.houseHolds(1, 6, 2);
        EDGES.due("no bids", none.auction(), 2);
        EDGES.due("nothing went", none.count(4), 6);
        FoulRights below = Steps.houseHolds(1, 1, 2);
        below.bid(0, 1, 1);
        EDGES.due("all bids are below it", below.auction(), 2);
        EDGES.due("nothing went", below.count(4), 1);
        FoulRights noRule = Steps.withWorks(1);
        noRule.rule(0, Steps.what(2, 0), 0);
        noRule.issue();
        noRule.bid(0, 1, 9);
        EDGES.due("a floor of 0", noRule.auction(), 0);
    }

    private static void eachPaysThePriceForEach() {
        EDGES.of("Terms", "Each pays it for each.");
        FoulRights x = Steps.houseHolds(4, 6, 2);
        x.bid(0, 2, 30);
        x.bid(1, 1, 20);
        x.bid(0, 1, 15);
        x.bid(2, 5, 10);
        x.bid(3, 1, 9);
        EDGES.due("the price", x.auction(), 10);
        int[] coins = {-30, -10, -20, 0};
        for (int works = 0; works < 4; works++) {
            EDGES.due("what " + works + " pays", x.told(works, 0), coins[works]);
        }
        EDGES.due("what it brought", x.count(8), 60);
    }

    private static void allBidsAreGoneBehindAnAuction() {
        EDGES.of("Terms", "All BIDS are gone then.");
        FoulRights x = Steps.houseHolds(3, 2, 5);
        x.bid(0, 2, 9);
        x.bid(1, 2, 9);
        x.bid(2, 2, 4);
        x.auction();
        EDGES.due("those that got none, too", x.count(7), 0);
        x.end();
        x.issue();
        EDGES.due("none is served again", x.auction(), 5);
        EDGES.due("the house keeps all", x.count(4), 2);
        EDGES.due("the next bid is the first", x.bid(1, 1, 5), 1);
        FoulRights below = Steps.houseHolds(1, 2, 5);
        below.bid(0, 2, 4);
        below.auction();
        EDGES.due("though nothing was sold", below.count(7), 0);
    }

    private static void tradedAreThoseOfTheLeastNumbers() {
        EDGES.of("Terms", "TRADED: n PERMITS that one HOLDS (of the least numbers) go to another one, for COINS.");
        FoulRights x = Steps.withWorks(3);
        x.offset(0, 3);
        x.offset(1, 3);
        EDGES.due("two of three", x.trade(0, 1, 2, 10), true);
        dueHolders("the least two", x, 0, 1, 1, 0, 1, 1, 1);
        EDGES.due("three of five", x.trade(1, 2, 3, 0), true);
        dueHolders("the least three", x, 0, 2, 2, 0, 2, 1, 1);
        EDGES.due("all of one", x.trade(0, 2, 1, 100000), true);
        dueHeld("all went", x, 0, 2, 4);
        EDGES.due("back", x.trade(2, 0, 1, 1), true);
        dueHolders("the least went back", x, 0, 0, 2, 2, 2, 1, 1);
        int[] coins = {10 + 100000 - 1, -10, -100000 + 1};
        for (int works = 0; works < 3; works++) {
            EDGES.due("coins for all of them together", x.told(works, 0), coins[works]);
        }
    }

    private static void tradedAreTheLeastThoughTheyCameLast() {
        EDGES.of("Terms", "TRADED: n PERMITS that one HOLDS (of the least numbers) go to another one, for COINS.");
        FoulRights x = Steps.withWorks(3);
        x.offset(0, 2);
        x.offset(1, 4);
        x.trade(1, 2, 1, 0);
        dueHolders("the least of four", x, 0, 0, 0, 2, 1, 1, 1);
        x.trade(0, 1, 1, 0);
        x.trade(1, 2, 1, 0);
        dueHolders("one that came behind greater ones", x, 0, 2, 0, 2, 1, 1, 1);
        x.trade(2, 1, 2, 0);
        x.trade(1, 0, 3, 0);
        dueHolders("two that came back, and one more", x, 0, 0, 0, 0, 0, 1, 1);
    }

    private static void usedAndCancelledOnesAreNotTraded() {
        EDGES.of("Terms", "TRADED: n PERMITS that one HOLDS (of the least numbers) go to another one, for COINS.");
        Past spent = new Past("one used, one cancelled, two held", x -> {
            Steps.addWorks(x, 2);
            x.offset(0, 4);
            x.cancel(0, 1);
            Steps.readAll(x, 0, 0, 0);
            x.meter(0, 0, 0, 1);
            x.end();
        });
        EDGES.refused("three of two", spent, x -> x.trade(0, 1, 3, 0));
        FoulRights x = spent.object();
        EDGES.due("two of two", x.trade(0, 1, 2, 0), true);
        dueHolders("the held ones", x, 0, 0, 0, 1, 1);
    }

    private static void projectsAreTwentyAtMost() {
        EDGES.of("Terms", "OFFSETS: PROJECTS have numbers as they come, at most 20");
        FoulRights x = Steps.withWorks(1);
        for (int project = 0; project < 20; project++) {
            EDGES.due("as they come", x.offset(0, 1), project);
            EDGES.due("its permit", x.permit(project, 4), project);
            if (project < 19) {
                x.end();
            }
        }
        EDGES.due("at most 20", x.offset(0, 1), NONE);
        EDGES.due("at most 20", x.count(10), 20);
        EDGES.due("no permit of a 21st", x.count(2), 20);
    }

    private static void permitsComeToAWorksByAProject() {
        EDGES.of("Terms", "n PERMITS come to a WORKS by one.");
        FoulRights x = Steps.withWorks(2);
        x.offset(1, 1);
        dueHeld("one", x, 0, 1);
        x.offset(0, 100);
        dueHeld("a hundred", x, 100, 1);
        EDGES.due("the first of them", x.permit(1, 4), 1);
        EDGES.due("the last of them", x.permit(100, 4), 1);
        EDGES.due("coming is no going", x.permit(100, 5), 0);
        EDGES.due("it costs nothing", x.told(0, 0), 0);
    }

    private static void aProjectIsFalseOnce() {
        EDGES.of("Terms", "It is FALSE (once)");
        Past isFalse = new Past("a project is false", x -> {
            Steps.addWorks(x, 2);
            x.offset(0, 3);
            x.offset(1, 2);
            x.cancel(0, 2);
            x.falses(0);
        });
        EDGES.refused("once more", isFalse, NONE, x -> x.falses(0));
        FoulRights x = isFalse.object();
        EDGES.due("the debts of once", x.told(0, 1), 2);
        EDGES.due("another one", x.falses(1), 0);
        EDGES.due("and that once", x.falses(1), NONE);
    }

    private static void heldOnesOfAFalseProjectAreCancelledWhereTheyLie() {
        EDGES.of("Terms", "those of its PERMITS that are HELD are CANCELLED where they lie");
        FoulRights x = Steps.withWorks(3);
        x.offset(0, 3);
        x.offset(0, 2);
        x.trade(0, 1, 2, 7);
        EDGES.due("no debt of held ones", x.falses(0), 0);
        for (int number = 0; number < 3; number++) {
            EDGES.due("cancelled " + number, x.permit(number, 0), CANCELLED);
            EDGES.due("never used " + number, x.permit(number, 3), NONE);
        }
        dueHolders("where they lie", x, 0, 1, 1, 0, 0, 0);
        dueHeld("the other project's are left", x, 2, 0, 0);
        EDGES.due("no debt", x.told(0, 1), 0);
        EDGES.due("no debt of the buyer", x.told(1, 1), 0);
        EDGES.due("coins stay", x.told(1, 0), -7);
        EDGES.due("cancelled in all", x.count(6), 3);
        EDGES.due("no going", x.permit(2, 5), 0);
    }

    private static void usedOnesOfAFalseProjectMakeDebts() {
        EDGES.of("Terms", "for each that is USED, or CANCELLED by its holder, the one who held it has one DEBT more.");
        FoulRights x = Steps.withWorks(3);
        x.offset(0, 6);
        x.trade(0, 1, 3, 0);
        x.cancel(1, 1);
        Steps.readAll(x, 0, 0, 0);
        Steps.readAll(x, 1, 0, 0);
        x.meter(0, 0, 0, 2);
        x.meter(1, 0, 0, 1);
        EDGES.due("the third has none", x.end(), 40);
        EDGES.due("three used, one cancelled", x.falses(0), 4);
        EDGES.due("two used", x.told(0, 1), 2);
        EDGES.due("one used, one cancelled, though they came to another", x.told(1, 1), 2);
        EDGES.due("a debt that was there", x.told(2, 1), 40);
        int[] states = {CANCELLED, USED, CANCELLED, USED, USED, CANCELLED};
        for (int number = 0; number < 6; number++) {
            EDGES.due("state of " + number, x.permit(number, 0), states[number]);
        }
        EDGES.due("used stay used", x.count(5), 3);
        EDGES.due("cancelled ones are not cancelled again", x.count(6), 3);
    }

    private static void debtsOfAFalseProjectAreAddedToDebts() {
        EDGES.of("Terms", "for each that is USED, or CANCELLED by its holder, the one who held it has one DEBT more.");
        FoulRights x = Steps.withWorks(1);
        x.rule(0, 0, Steps.share(0, 5, 0));
        x.offset(0, 30);
        EDGES.due("ten lack", x.end(), 10);
        EDGES.due("thirty were used", x.falses(0), 30);
        EDGES.due("ten and thirty", x.told(0, 1), 40);
        EDGES.due("a debt is no fine yet", x.told(0, 0), -50);
        Steps.readAll(x, 0, 1, 0);
        EDGES.due("all of it lacks", x.end(), 40);
        EDGES.due("it is fined then", x.told(0, 0), -50 - 200);
    }
}
