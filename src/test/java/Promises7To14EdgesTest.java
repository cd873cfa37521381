/** Boundary cases of promises 7 to 14: issue, bid, auction, trade, offset, falses, cancel, end. */
public final class Promises7To14EdgesTest {
    private static final int NONE = FoulRights.NONE;
    private static final int HELD = 0;
    private static final int USED = 1;
    private static final int CANCELLED = 2;
    private static final Edges EDGES = new Edges();

    /** Works 0 holds the permits 1, 3 and 4, works 1 number 0, works 2 none; number 2 is cancelled. */
    private static final Past HOLDINGS = new Past("works that hold 3, 1 and 0", x -> {
        Steps.addWorks(x, 3);
        x.offset(0, 1);
        x.trade(0, 1, 1, 30);
        x.offset(0, 1);
        x.offset(2, 1);
        x.cancel(2, 1);
        x.offset(0, 2);
        x.bid(2, 2, 5);
        for (int works = 0; works < 3; works++) {
            Steps.readAll(x, works, 0, 0);
        }
    });

    public static void main(String[] args) throws ReflectiveOperationException {
        EDGES.run(Promises7To14EdgesTest.class);
    }

    /** 3601 permits, all the house's, and a year without an issue yet; 400 more would be one too many. */
    private static Past justTooManyFor400() {
        return new Past("3601 permits", x -> {
            Steps.addWorks(x, 2);
            x.rule(0, Steps.what(400, 0), 0);
            x.rule(9, Steps.what(1, 0), 0);
            x.rule(10, Steps.what(400, 0), 0);
            Steps.issueYears(x, 10);
            x.end();
        });
    }

    private static void issueTellsHowManyCame() {
        EDGES.of("Promise 7", "To ISSUE: how many came");
        int[] caps = {0, 1, 400};
        for (int cap : caps) {
            FoulRights x = Steps.withWorks(2);
            x.rule(0, Steps.what(cap, 0), Steps.share(50, 0, 0));
            EDGES.due("to the house alone, " + cap, x.issue(), cap);
            x.end();
            EDGES.due("to works, too, " + cap, x.issue(), cap);
            EDGES.due("both, " + cap, x.count(2), 2 * cap);
        }
        EDGES.due("without a rule", new FoulRights().issue(), 0);
    }

    private static void anIssueOfAYearThatHadOneIsRefused() {
        EDGES.of("Promise 7", "NONE if it was done in this YEAR");
        EDGES.refused("a second one", Pasts.BUSY, NONE, x -> x.issue());
        EDGES.due("it was not done", Pasts.BEFORE_ISSUE.object().issue(), 38);
        Past changed = new Past("a rule was told behind the issue", x -> {
            x.works();
            x.rule(0, Steps.what(3, 0), 0);
            x.issue();
            x.rule(0, Steps.what(9, 0), 0);
        });
        EDGES.refused("a second one by another rule", changed, NONE, x -> x.issue());
        FoulRights x = changed.object();
        for (int year = 1; year < 20; year++) {
            x.end();
            EDGES.due("of year " + year, x.issue(), 9);
            EDGES.due("once more of year " + year, x.issue(), NONE);
        }
    }

    private static void anIssueBehindTheLastYearIsRefused() {
        EDGES.of("Promise 7", "NOW is 20");
        EDGES.refused("behind the last year", Pasts.BEHIND_LAST_YEAR, NONE, x -> x.issue());
        Past noCap = new Past("behind the last year, without rules", x -> Steps.endYears(x, 20));
        EDGES.refused("though none would come", noCap, NONE, x -> x.issue());
        FoulRights x = Steps.withWorks(1);
        x.rule(19, Steps.what(4, 0), 0);
        Steps.endYears(x, 19);
        EDGES.due("in the last year", x.issue(), 4);
        EDGES.due("its year", x.permit(3, 2), 19);
    }

    private static void anIssueToMoreThan4000IsRefused() {
        EDGES.of("Promise 7", "or more than 4000 PERMITS would be.");
        Past past = justTooManyFor400();
        EDGES.due("permits", past.object().count(2), 3601);
        EDGES.refused("4001 would be", past, NONE, x -> x.issue());
        FoulRights x = past.object();
        x.issue();
        x.rule(10, Steps.what(399, 0), 0);
        EDGES.due("a refused one was not done; 4000 may be", x.issue(), 399);
        EDGES.due("4000", x.count(2), 4000);
        EDGES.due("the last one", x.permit(3999, 1), NONE);
        x.end();
        x.rule(11, Steps.what(0, 0), 0);
        EDGES.due("none more may come", x.issue(), 0);
        x.end();
        x.rule(12, Steps.what(1, 0), 0);
        EDGES.due("one more may not", x.issue(), NONE);
    }

    private static void usedAndCancelledOnesCountAmong4000() {
        EDGES.of("Promise 7", "or more than 4000 PERMITS would be.");
        Past spent = new Past("4000 permits, most of them used or cancelled", x -> {
            Steps.addWorks(x, 2);
            x.rule(0, Steps.what(400, 0), Steps.share(100, 0, 0));
            for (int year = 0; year < 10; year++) {
                x.issue();
                x.cancel(0, 100);
                x.end();
            }
        });
        EDGES.due("cancelled", spent.object().count(6), 900);
        EDGES.refused("an issue", spent, NONE, x -> x.issue());
    }

    private static void bidTellsHowManyThereAre() {
        EDGES.of("Promise 8", "A BID: how many there are");
        FoulRights x = Steps.houseHolds(2, 5, 0);
        for (int i = 1; i <= 40; i++) {
            EDGES.due("bid " + i, x.bid(i % 2, i, 40 - i), i);
        }
        x.auction();
        EDGES.due("the first behind an auction", x.bid(0, 1, 1), 1);
        x.end();
        EDGES.due("they stay over a year's end", x.bid(0, 1, 1), 2);
        EDGES.due("behind the last year, too", Pasts.BEHIND_LAST_YEAR.object().bid(0, 1, 1), 4);
    }

    private static void aBidOfNoWorksIsRefused() {
        EDGES.of("Promise 8", "NONE if there is no such WORKS");
        for (int works : Steps.outside(0, 3)) {
            EDGES.refusedAnywhere("works " + works, NONE, x -> x.bid(works, 1, 500));
        }
        FoulRights x = Steps.withWorks(10);
        EDGES.due("the tenth", x.bid(9, 1, 1), 1);
        EDGES.due("an eleventh", x.bid(10, 1, 1), NONE);
    }

    private static void aBidForNoneOrMoreThan400IsRefused() {
        EDGES.of("Promise 8", "n isn't 1 .. 400");
        for (int n : Steps.outside(1, 400)) {
            EDGES.refusedAnywhere("n " + n, NONE, x -> x.bid(0, n, 500));
        }
        FoulRights x = Steps.withWorks(1);
        EDGES.due("n 1", x.bid(0, 1, 500), 1);
        EDGES.due("n 400", x.bid(0, 400, 500), 2);
    }

    private static void aBidAtNoPriceIsRefused() {
        EDGES.of("Promise 8", "the price not 0 .. 999");
        for (int price : Steps.outside(0, 999)) {
            EDGES.refusedAnywhere("price " + price, NONE, x -> x.bid(0, 10, price));
        }
        FoulRights x = Steps.withWorks(1);
        EDGES.due("price 0", x.bid(0, 10, 0), 1);
        EDGES.due("price 999", x.bid(0, 10, 999), 2);
    }

    private static void aFortyFirstBidIsRefused() {
        EDGES.of("Promise 8", "or 40 are there.");
        Past forty = new Past("forty bids", x -> {
            Steps.addWorks(x, 3);
            for (int i = 0; i < 40; i++) {
                x.bid(i % 3, 1 + i % 10, 20 + i % 7);
            }
        });
        EDGES.refused("a dearer one", forty, NONE, x -> x.bid(0, 400, 999));
        EDGES.refused("a cheaper one", forty, NONE, x -> x.bid(2, 1, 0));
        FoulRights x = forty.object();
        EDGES.due("an auction of nothing makes no room", x.auction(), NONE);
        EDGES.due("a 41st still", x.bid(0, 1, 1), NONE);
        x.rule(0, Steps.what(60, 0), 0);
        x.issue();
        EDGES.due("25 at 26, 30 at 25, the rest at 24", x.auction(), 24);
        EDGES.due("there is room then", x.bid(0, 1, 1), 1);
    }

    private static void auctionTellsThePrice() {
        EDGES.of("Promise 9", "An AUCTION: the PRICE");
        FoulRights one = Steps.houseHolds(1, 1, 99);
        one.bid(0, 1, 99);
        EDGES.due("the greatest floor", one.auction(), 99);
        FoulRights two = Steps.houseHolds(1, 1, 0);
        two.bid(0, 1, 999);
        EDGES.due("the greatest price", two.auction(), 999);
        FoulRights three = Steps.houseHolds(1, 1, 0);
        three.bid(0, 1, 0);
        EDGES.due("the least price", three.auction(), 0);
        FoulRights late = Steps.houseHolds(1, 2, 6);
        Steps.endYears(late, 20);
        late.bid(0, 1, 9);
        EDGES.due("behind the last year, by the rule in force in it", late.auction(), 6);
        EDGES.due("behind the last year", late.told(0, 2), 1);
    }

    private static void anAuctionOfAHouseWithoutPermitsIsRefused() {
        EDGES.of("Promise 9", "NONE (and BIDS stay) if the HOUSE HOLDS no PERMITS.");
        EDGES.refused("no permits at all", Pasts.NEW, NONE, x -> x.auction());
        EDGES.refused("works hold all", HOLDINGS, NONE, x -> x.auction());
        Past soldOut = new Past("sold out, with bids", x -> {
            Steps.addWorks(x, 2);
            x.rule(0, Steps.what(3, 0), Steps.share(0, 0, 2));
            x.issue();
            x.bid(0, 3, 7);
            x.auction();
            x.bid(1, 2, 9);
            x.bid(0, 2, 8);
        });
        EDGES.refused("sold out", soldOut, NONE, x -> x.auction());
        FoulRights x = soldOut.object();
        x.auction();
        EDGES.due("bids stay", x.count(7), 2);
        x.end();
        x.issue();
        EDGES.due("they are served later", x.auction(), 8);
        EDGES.due("they are served later", x.told(1, 2), 2);
    }

    private static void tradeAnswersTrue() {
        EDGES.of("Promise 10", "TRADED: true");
        FoulRights x = HOLDINGS.object();
        EDGES.due("one for nothing", x.trade(0, 2, 1, 0), true);
        EDGES.due("the least number", x.permit(1, 1), 2);
        EDGES.due("all that are left, for the most", x.trade(0, 2, 2, 100000), true);
        EDGES.due("holds", x.told(0, 2), 0);
        EDGES.due("holds", x.told(2, 2), 3);
        EDGES.due("coins", x.told(0, 0), 30 + 100000);
        EDGES.due("coins", x.told(2, 0), -100000);
        EDGES.due("behind the last year, too", behindTheLastYear(x).trade(2, 0, 1, 0), true);
    }

    private static FoulRights behindTheLastYear(FoulRights x) {
        while (x.count(0) < 20) {
            for (int works = 0; works < 3; works++) {
                Steps.readAll(x, works, x.count(0), 0);
            }
            x.end();
        }
        return x;
    }

    private static void aTradeOfNoWorksIsRefused() {
        EDGES.of("Promise 10", "false if there is no such WORKS");
        for (int works : Steps.outside(0, 2)) {
            EDGES.refused("from " + works, HOLDINGS, x -> x.trade(works, 1, 1, 5));
            EDGES.refused("to " + works, HOLDINGS, x -> x.trade(0, works, 1, 5));
        }
        EDGES.refused("from the house, which holds some", Pasts.BUSY, x -> x.trade(NONE, 1, 1, 5));
    }

    private static void aTradeWithOneselfIsRefused() {
        EDGES.of("Promise 10", "both are one");
        EDGES.refused("one of three", HOLDINGS, x -> x.trade(0, 0, 1, 5));
        EDGES.refused("all of three", HOLDINGS, x -> x.trade(0, 0, 3, 0));
        EDGES.refused("the only one", HOLDINGS, x -> x.trade(1, 1, 1, 5));
        EDGES.refused("the house with itself", Pasts.BUSY, x -> x.trade(NONE, NONE, 1, 5));
    }

    private static void aTradeOfMoreThanItHoldsIsRefused() {
        EDGES.of("Promise 10", "it HOLDS fewer");
        EDGES.refused("four of three", HOLDINGS, x -> x.trade(0, 1, 4, 5));
        EDGES.refused("two of one", HOLDINGS, x -> x.trade(1, 0, 2, 5));
        EDGES.refused("one of none", HOLDINGS, x -> x.trade(2, 0, 1, 5));
        EDGES.refused("the most of three", HOLDINGS, x -> x.trade(0, 1, Integer.MAX_VALUE, 5));
        EDGES.due("three of three", HOLDINGS.object().trade(0, 1, 3, 5), true);
        EDGES.due("one of one", HOLDINGS.object().trade(1, 0, 1, 5), true);
    }

    private static void aTradeOfNoneIsRefused() {
        EDGES.of("Promise 10", "n is below 1");
        int[] few = {0, -1, -2, -256, -65536, Integer.MIN_VALUE, Integer.MIN_VALUE + 1};
        for (int n : few) {
            EDGES.refused("n " + n, HOLDINGS, x -> x.trade(0, 1, n, 5));
            EDGES.refused("n " + n + " of none", HOLDINGS, x -> x.trade(2, 1, n, 5));
        }
    }

    private static void aTradeForNoCoinsThatCanBeIsRefused() {
        EDGES.of("Promise 10", "or COINS are not 0 .. 100000.");
        for (int coins : Steps.outside(0, 100000)) {
            EDGES.refused("coins " + coins, HOLDINGS, x -> x.trade(0, 1, 1, coins));
        }
        EDGES.due("coins 0", HOLDINGS.object().trade(0, 1, 1, 0), true);
        EDGES.due("coins 100000", HOLDINGS.object().trade(0, 1, 1, 100000), true);
    }

    private static void offsetTellsItsProject() {
        EDGES.of("Promise 11", "An OFFSET: its PROJECT");
        FoulRights x = Steps.withWorks(10);
        for (int project = 0; project < 20; project++) {
            EDGES.due("its project", x.offset(9 - project % 10, 1 + project), project);
        }
        EDGES.due("the first one's", x.permit(0, 4), 0);
        EDGES.due("the last one's", x.permit(209, 4), 19);
        EDGES.due("the one before", x.permit(189, 4), 18);
        EDGES.due("permits", x.count(2), 210);
    }

    private static void anOffsetOfNoWorksIsRefused() {
        EDGES.of("Promise 11", "NONE if there is no such WORKS");
        for (int works : Steps.outside(0, 3)) {
            EDGES.refusedAnywhere("works " + works, NONE, x -> x.offset(works, 1));
        }
        EDGES.due("the last works", Pasts.BUSY.object().offset(3, 1), 3);
    }

    private static void anOffsetOfNoneOrMoreThan100IsRefused() {
        EDGES.of("Promise 11", "n isn't 1 .. 100");
        for (int n : Steps.outside(1, 100)) {
            EDGES.refusedAnywhere("n " + n, NONE, x -> x.offset(0, n));
        }
        FoulRights x = Steps.withWorks(1);
        EDGES.due("n 1", x.offset(0, 1), 0);
        EDGES.due("n 100", x.offset(0, 100), 1);
        EDGES.due("both", x.told(0, 2), 101);
    }

    private static void a21stOffsetIsRefused() {
        EDGES.of("Promise 11", "20 came");
        Past twenty = new Past("twenty projects", x -> {
            Steps.addWorks(x, 2);
            for (int i = 0; i < 20; i++) {
                x.offset(i % 2, 1);
            }
            x.falses(3);
        });
        EDGES.refused("a 21st", twenty, NONE, x -> x.offset(0, 1));
        EDGES.refused("a 21st, of many", twenty, NONE, x -> x.offset(1, 100));
        FoulRights x = twenty.object();
        x.end();
        EDGES.due("not in the next year", x.offset(0, 1), NONE);
        FoulRights y = Steps.withWorks(1);
        for (int i = 0; i < 19; i++) {
            y.offset(0, 1);
            y.offset(0, 0);
            y.offset(1, 1);
        }
        EDGES.due("refused ones are not counted", y.offset(0, 1), 19);
    }

    private static void anOffsetBehindTheLastYearIsRefused() {
        EDGES.of("Promise 11", "NOW is 20");
        EDGES.refused("behind the last year", Pasts.BEHIND_LAST_YEAR, NONE, x -> x.offset(0, 1));
        FoulRights x = Steps.withWorks(1);
        Steps.endYears(x, 19);
        EDGES.due("in the last year", x.offset(0, 100), 0);
        EDGES.due("it is used in it", x.permit(0, 2), 19);
        x.end();
        EDGES.due("behind it", x.offset(0, 1), NONE);
    }

    private static void anOffsetToMoreThan4000IsRefused() {
        EDGES.of("Promise 11", "or more than 4000 PERMITS would be.");
        Past past = new Past("3901 permits", x -> {
            Steps.addWorks(x, 2);
            x.rule(0, Steps.what(390, 0), 0);
            Steps.issueYears(x, 10);
            x.offset(1, 1);
        });
        EDGES.refused("4001 would be", past, NONE, x -> x.offset(0, 100));
        FoulRights x = past.object();
        x.offset(0, 100);
        EDGES.due("4000 may be, by the next number", x.offset(0, 99), 1);
        EDGES.due("4000", x.count(2), 4000);
        EDGES.due("the last one", x.permit(3999, 4), 1);
        EDGES.due("one more may not", x.offset(0, 1), NONE);
        FoulRights y = past.object();
        EDGES.due("3999", y.offset(0, 98), 1);
        EDGES.due("two more may not", y.offset(0, 2), NONE);
        EDGES.due("one more may", y.offset(0, 1), 2);
    }

    private static void falsesTellsHowManyDebts() {
        EDGES.of("Promise 12", "A PROJECT is FALSE: how many DEBTS more there are");
        FoulRights held = Steps.withWorks(1);
        held.offset(0, 100);
        EDGES.due("all are held", held.falses(0), 0);
        EDGES.due("all are cancelled", held.count(6), 100);
        FoulRights spent = Steps.withWorks(1);
        spent.offset(0, 100);
        spent.cancel(0, 100);
        EDGES.due("all were cancelled by their holder", spent.falses(0), 100);
        EDGES.due("its debt", spent.told(0, 1), 100);
        EDGES.due("they are cancelled once", spent.count(6), 100);
        FoulRights used = Steps.withWorks(1);
        used.offset(0, 40);
        used.end();
        EDGES.due("all were used", used.falses(0), 40);
        EDGES.due("its debt", used.told(0, 1), 40);
        FoulRights late = Steps.withWorks(1);
        late.offset(0, 41);
        Steps.endYears(late, 20);
        EDGES.due("behind the last year, too", late.falses(0), 41);
    }

    private static void falsesOfOneProjectAlone() {
        EDGES.of("Promise 12", "A PROJECT is FALSE: how many DEBTS more there are");
        FoulRights x = Steps.houseHolds(2, 4, 0);
        for (int project = 0; project < 20; project++) {
            x.offset(project % 2, 2);
        }
        x.cancel(0, 1);
        x.cancel(1, 1);
        EDGES.due("the last project", x.falses(19), 0);
        EDGES.due("one is cancelled by its holder", x.falses(0), 1);
        int[] states = {HELD, CANCELLED, CANCELLED, CANCELLED, HELD, HELD, HELD};
        for (int i = 0; i < states.length; i++) {
            EDGES.due("state of " + (3 + i), x.permit(3 + i, 0), states[i]);
        }
        EDGES.due("the last project's", x.permit(43, 0), CANCELLED);
        EDGES.due("the one before", x.permit(41, 0), HELD);
        EDGES.due("debt", x.told(0, 1), 1);
        EDGES.due("no debt", x.told(1, 1), 0);
        EDGES.due("the house's are no project's", x.count(4), 4);
    }

    private static void falsesOfNoProjectIsRefused() {
        EDGES.of("Promise 12", "NONE if there is none such");
        for (int project : Steps.outside(0, 2)) {
            EDGES.refusedAnywhere("project " + project, NONE, x -> x.falses(project));
        }
        EDGES.refused("the first, ahead of it", Pasts.NEW, NONE, x -> x.falses(0));
        FoulRights x = Steps.withWorks(1);
        EDGES.due("ahead of it", x.falses(0), NONE);
        x.offset(0, 1);
        EDGES.due("behind it", x.falses(0), 0);
        EDGES.due("the next one", x.falses(1), NONE);
    }

    private static void falsesOfAFalseProjectIsRefused() {
        EDGES.of("Promise 12", "or it is so already.");
        EDGES.refused("of a busy second year", Pasts.BUSY, NONE, x -> x.falses(1));
        Past twenty = new Past("a 20th project is false", x -> {
            Steps.addWorks(x, 2);
            for (int i = 0; i < 20; i++) {
                x.offset(1, 3);
            }
            x.cancel(1, 59);
            x.falses(19);
            x.falses(0);
        });
        EDGES.refused("the 20th", twenty, NONE, x -> x.falses(19));
        EDGES.refused("the first", twenty, NONE, x -> x.falses(0));
        EDGES.due("debts of once", twenty.object().told(1, 1), 2 + 3);
        EDGES.due("not another one", twenty.object().falses(18), 3);
        FoulRights x = twenty.object();
        x.end();
        EDGES.due("not in a later year", x.falses(0), NONE);
    }

    private static void cancelTakesTheLeastNumbers() {
        EDGES.of("Promise 13", "A WORKS has n of its PERMITS CANCELLED (of the least numbers): true");
        FoulRights x = HOLDINGS.object();
        EDGES.due("two of three", x.cancel(0, 2), true);
        int[] states = {HELD, CANCELLED, CANCELLED, CANCELLED, HELD};
        for (int number = 0; number < 5; number++) {
            EDGES.due("state of " + number, x.permit(number, 0), states[number]);
        }
        EDGES.due("who held it", x.permit(3, 1), 0);
        EDGES.due("it was never used", x.permit(3, 3), NONE);
        EDGES.due("none was used", x.told(0, 3), 0);
        EDGES.due("holds", x.told(0, 2), 1);
        EDGES.due("cancelled", x.count(6), 3);
        EDGES.due("the last one", x.cancel(0, 1), true);
        EDGES.due("the only one", x.cancel(1, 1), true);
        EDGES.due("none is held", x.count(3), 0);
        FoulRights late = behindTheLastYear(HOLDINGS.object());
        EDGES.due("behind the last year, too", late.cancel(0, 3), true);
    }

    private static void cancelTakesTheLeastThoughTheyCameLast() {
        EDGES.of("Promise 13", "A WORKS has n of its PERMITS CANCELLED (of the least numbers): true");
        FoulRights x = Steps.houseHolds(2, 2, 0);
        x.offset(0, 1);
        x.offset(1, 4);
        x.cancel(1, 1);
        x.trade(0, 1, 1, 0);
        x.bid(1, 1, 0);
        x.auction();
        x.cancel(1, 1);
        EDGES.due("one of the house's", x.permit(0, 0), CANCELLED);
        x.cancel(1, 2);
        int[] states = {CANCELLED, HELD, CANCELLED, CANCELLED, CANCELLED, HELD, HELD};
        for (int number = 0; number < 7; number++) {
            EDGES.due("state of " + number, x.permit(number, 0), states[number]);
        }
    }

    private static void cancelOfNoWorksIsRefused() {
        EDGES.of("Promise 13", "false if there is none such");
        for (int works : Steps.outside(0, 3)) {
            EDGES.refusedAnywhere("works " + works, x -> x.cancel(works, 1));
        }
    }

    private static void cancelOfMoreThanItHoldsIsRefused() {
        EDGES.of("Promise 13", "it HOLDS fewer");
        EDGES.refused("four of three", HOLDINGS, x -> x.cancel(0, 4));
        EDGES.refused("two of one", HOLDINGS, x -> x.cancel(1, 2));
        EDGES.refused("one of none, the only one is cancelled", HOLDINGS, x -> x.cancel(2, 1));
        EDGES.refused("the most of three", HOLDINGS, x -> x.cancel(0, Integer.MAX_VALUE));
        EDGES.due("three of three", HOLDINGS.object().cancel(0, 3), true);
    }

    private static void cancelOfNoneIsRefused() {
        EDGES.of("Promise 13", "or n is below 1.");
        int[] few = {0, -1, -2, -256, -65536, Integer.MIN_VALUE, Integer.MIN_VALUE + 1};
        for (int n : few) {
            EDGES.refused("n " + n, HOLDINGS, x -> x.cancel(0, n));
            EDGES.refused("n " + n + " of none", HOLDINGS, x -> x.cancel(2, n));
        }
    }

    private static void endTellsAllThatLacked() {
        EDGES.of("Promise 14", "The YEAR ends: all that lacked");
        FoulRights x = Steps.withWorks(3);
        Steps.readAll(x, 0, 0, 5);
        Steps.readAll(x, 1, 0, 1);
        Steps.readAll(x, 2, 0, 0);
        x.offset(0, 19);
        x.offset(1, 4);
        x.offset(2, 9);
        EDGES.due("one of three lacks one", x.end(), 1);
        EDGES.due("one's surplus is not another's", x.told(2, 2), 9);
        for (int works = 0; works < 3; works++) {
            Steps.readAll(x, works, 1, 0);
        }
        x.trade(2, 0, 1, 0);
        EDGES.due("nothing lacks", x.end(), 0);
        EDGES.due("the debt is gone", x.told(0, 1), 0);
        EDGES.due("used", x.permit(23, 0), USED);
        EDGES.due("the year of its use", x.permit(23, 3), 1);
        EDGES.due("no works", new FoulRights().end(), 0);
    }

    private static void endBehindTheLastYearIsRefused() {
        EDGES.of("Promise 14", "NONE if NOW is 20.");
        EDGES.refused("behind the last year", Pasts.BEHIND_LAST_YEAR, NONE, x -> x.end());
        Past empty = new Past("behind the last year, without works", x -> Steps.endYears(x, 20));
        EDGES.refused("no works", empty, NONE, x -> x.end());
        Past late = new Past("permits and a debt behind the last year", x -> {
            Steps.addWorks(x, 2);
            x.rule(0, Steps.what(50, 0), Steps.share(0, 3, 0));
            Steps.endYears(x, 18);
            x.issue();
            x.end();
            x.end();
            x.bid(0, 30, 1);
            x.auction();
        });
        EDGES.refused("nothing is used or fined", late, NONE, x -> x.end());
        FoulRights x = Steps.withWorks(1);
        for (int year = 0; year < 20; year++) {
            EDGES.due("year " + year, x.end(), 40 * (year + 1));
        }
        EDGES.due("the 21st", x.end(), NONE);
    }
}
