/** Boundary cases of promises 1 to 6: a new object, works, rule, ruled, meter, fouled. */
public final class Promises1To6EdgesTest {
    private static final int NONE = FoulRights.NONE;
    private static final int UNTOLD = Integer.MIN_VALUE;
    private static final Edges EDGES = new Edges();

    public static void main(String[] args) throws ReflectiveOperationException {
        EDGES.run(Promises1To6EdgesTest.class);
    }

    private static void aNewObjectHasNoWorks() {
        EDGES.of("Promise 1", "No WORKS, no RULES; NOW is 0.");
        Past empty = new Past("a new object", x -> { });
        EDGES.due("none is counted", empty.object().count(1), 0);
        EDGES.refused("no meter", empty, x -> x.meter(0, 0, 0, 5));
        EDGES.refused("none fouled", empty, NONE, x -> x.fouled(0, 0));
        EDGES.refused("no bid", empty, NONE, x -> x.bid(0, 1, 1));
        EDGES.refused("no trade", empty, x -> x.trade(0, 1, 1, 1));
        EDGES.refused("no offset", empty, NONE, x -> x.offset(0, 1));
        EDGES.refused("no cancelling", empty, x -> x.cancel(0, 1));
        EDGES.refused("none is told", empty, UNTOLD, x -> x.told(0, 0));
        EDGES.refused("no cut", empty, NONE, x -> x.cut(0, 1, 1));
        EDGES.refused("none cuts", empty, NONE, x -> x.cuts(0, 0));
        EDGES.due("the first is 0", empty.object().works(), 0);
    }

    private static void aNewObjectHasNoRules() {
        EDGES.of("Promise 1", "No WORKS, no RULES; NOW is 0.");
        FoulRights x = new FoulRights();
        for (int year = 0; year < 20; year++) {
            for (int what = 0; what < 4; what++) {
                EDGES.due("no rule of year " + year, x.ruled(year, what), 0);
            }
        }
        for (int i = 1; i <= 30; i++) {
            EDGES.due("rule " + i, x.rule(0, 0, 0), true);
        }
        EDGES.due("rule 31", x.rule(0, 0, 0), false);
    }

    private static void aNewObjectIsInYear0AndHasNothing() {
        EDGES.of("Promise 1", "No WORKS, no RULES; NOW is 0.");
        Past empty = new Past("a new object", x -> { });
        for (int what = 0; what <= 10; what++) {
            EDGES.due("count " + what, empty.object().count(what), 0);
        }
        EDGES.refused("no permit", empty, UNTOLD, x -> x.permit(0, 0));
        EDGES.refused("no project", empty, NONE, x -> x.falses(0));
        EDGES.refused("no auction", empty, NONE, x -> x.auction());
        EDGES.refused("no cuts", empty, NONE, x -> x.least(1));
        EDGES.due("an issue", empty.object().issue(), 0);
        EDGES.due("an end", empty.object().end(), 0);
    }

    private static void aNewObjectSharesNothingWithAnother() {
        EDGES.of("Promise 1", "No WORKS, no RULES; NOW is 0.");
        FoulRights busy = Pasts.BUSY.object();
        FoulRights x = new FoulRights();
        for (int what = 0; what <= 10; what++) {
            EDGES.due("count " + what, x.count(what), 0);
        }
        x.works();
        EDGES.due("no reading", x.fouled(0, 0), 40);
        EDGES.due("no rule", x.ruled(0, 0), 0);
        EDGES.due("no cut", x.least(1), NONE);
        EDGES.due("the other one stays", busy.count(1), 4);
    }

    private static void worksComeUpToTen() {
        EDGES.of("Promise 2", "A WORKS comes: its number");
        FoulRights x = new FoulRights();
        for (int number = 0; number < 10; number++) {
            EDGES.due("its number", x.works(), number);
            EDGES.due("how many", x.count(1), number + 1);
            EDGES.due("it can be read", x.meter(number, 0, 0, 1), true);
        }
        FoulRights late = Pasts.BEHIND_LAST_YEAR.object();
        EDGES.due("behind the last year, too", late.works(), 4);
    }

    private static void anEleventhWorksIsRefused() {
        EDGES.of("Promise 2", "NONE if 10 came.");
        Past ten = new Past("ten works", x -> {
            Steps.addWorks(x, 10);
            x.meter(9, 0, 0, 7);
            x.offset(9, 3);
        });
        EDGES.refused("an eleventh", ten, NONE, x -> x.works());
        FoulRights x = ten.object();
        for (int i = 0; i < 5; i++) {
            EDGES.due("again and again", x.works(), NONE);
        }
        EDGES.due("ten stay", x.count(1), 10);
    }

    private static void aRuleIsTold() {
        EDGES.of("Promise 3", "A RULE: true.");
        FoulRights x = new FoulRights();
        EDGES.due("the least of all", x.rule(0, 0, 0), true);
        EDGES.due("the greatest of all", x.rule(19, 400100, 10099999), true);
        EDGES.due("of a year to come", x.rule(10, 5000, 0), true);
        Steps.endYears(x, 20);
        EDGES.due("of a past year", x.rule(3, 5000, 0), true);
        EDGES.due("of the last year, behind it", x.rule(19, 6000, 0), true);
        EDGES.due("it is told", x.ruled(19, 0), 6);
    }

    private static void whatAndShareHoldFiveNumbers() {
        EDGES.of("Promise 3", "What is CAP * 1000 + FALL; share SHARE * 100000 + FINE * 100 + FLOOR.");
        int[][] rules = {
            // what, share: CAP, SHARE, FINE, FLOOR, the CAP a year on
            {0, 0, 0, 0, 0, 0, 0},
            {400100, 10099999, 400, 100, 999, 99, 0},
            {400000, 10000000, 400, 100, 0, 0, 400},
            {400099, 9999999, 400, 99, 999, 99, 4},
            {399100, 99999, 399, 0, 999, 99, 0},
            {1000, 100000, 1, 1, 0, 0, 1},
            {1100, 99, 1, 0, 0, 99, 0},
            {100, 100, 0, 0, 1, 0, 0},
            {100001, 101, 100, 0, 1, 1, 99},
            {10010, 1, 10, 0, 0, 1, 9},
            {200050, 5002003, 200, 50, 20, 3, 100}};
        for (int[] r : rules) {
            FoulRights x = new FoulRights();
            EDGES.due("rule " + r[0] + ", " + r[1], x.rule(4, r[0], r[1]), true);
            for (int what = 0; what < 4; what++) {
                EDGES.due("of " + r[0] + ", " + r[1] + ": " + what, x.ruled(4, what), r[2 + what]);
            }
            EDGES.due("fall of " + r[0], x.ruled(5, 0), r[6]);
        }
    }

    private static void aRuleOfNoYearIsRefused() {
        EDGES.of("Promise 3", "False if there is no such YEAR");
        for (int year : Steps.outside(0, 19)) {
            EDGES.refusedAnywhere("year " + year, x -> x.rule(year, 5000, 100));
        }
    }

    private static void aRuleThatCannotBeIsRefused() {
        EDGES.of("Promise 3", "it can't be");
        int[] whats = {401000, 400101, 400999, 101, 999, 1101, 399999, 500000, 1000000, -1, -100, -999, -1000,
            -400100, Integer.MIN_VALUE, Integer.MIN_VALUE + 1, Integer.MAX_VALUE, Integer.MAX_VALUE - 1};
        for (int what : whats) {
            EDGES.refusedAnywhere("what " + what, x -> x.rule(1, what, 0));
        }
        int[] shares = {10100000, 10100001, 10199999, 11000000, 100000000, -1, -99, -100, -99999, -100000,
            -10099999, Integer.MIN_VALUE, Integer.MIN_VALUE + 1, Integer.MAX_VALUE, Integer.MAX_VALUE - 1};
        for (int share : shares) {
            EDGES.refusedAnywhere("share " + share, x -> x.rule(1, 5000, share));
        }
    }

    private static void thirtyRulesAreTold() {
        EDGES.of("Promise 3", "or 30 were told.");
        Past thirty = new Past("thirty rules", x -> {
            for (int i = 0; i < 29; i++) {
                x.rule(i % 5, 1000 * i, i);
            }
            x.rule(19, 400000, 99);
        });
        EDGES.due("the 30th is in force", thirty.object().ruled(19, 0), 400);
        EDGES.refused("a 31st", thirty, x -> x.rule(7, 5000, 0));
        EDGES.refused("a 31st of a year that has one", thirty, x -> x.rule(19, 5000, 0));
        FoulRights x = new FoulRights();
        for (int i = 0; i < 29; i++) {
            x.rule(0, 1000, 0);
            x.rule(20, 1000, 0);
            x.rule(0, 401000, 0);
        }
        EDGES.due("refused ones are not counted", x.rule(0, 9000, 0), true);
        EDGES.due("the 30th is in force", x.ruled(0, 0), 9);
        EDGES.due("a 31st", x.rule(0, 8000, 0), false);
        EDGES.due("the 30th stays", x.ruled(0, 0), 9);
    }

    private static void ruledTellsFourNumbersOfAYear() {
        EDGES.of("Promise 4", "Of a YEAR: 0 CAP, 1 SHARE, 2 FINE, 3 FLOOR");
        FoulRights x = new FoulRights();
        x.rule(0, Steps.what(321, 0), Steps.share(87, 654, 10));
        x.rule(19, Steps.what(123, 0), Steps.share(45, 678, 90));
        int[] first = {321, 87, 654, 10};
        int[] last = {123, 45, 678, 90};
        for (int what = 0; what < 4; what++) {
            EDGES.due("year 0: " + what, x.ruled(0, what), first[what]);
            EDGES.due("year 18: " + what, x.ruled(18, what), first[what]);
            EDGES.due("year 19: " + what, x.ruled(19, what), last[what]);
        }
        Steps.endYears(x, 20);
        for (int what = 0; what < 4; what++) {
            EDGES.due("year 0, behind the last one: " + what, x.ruled(0, what), first[what]);
        }
    }

    private static void ruledIsNoneForOthers() {
        EDGES.of("Promise 4", "NONE for others, or no such YEAR.");
        for (int what : Steps.outside(0, 3)) {
            EDGES.refusedAnywhere("what " + what, NONE, x -> x.ruled(0, what));
        }
        for (int year : Steps.outside(0, 19)) {
            EDGES.refusedAnywhere("year " + year, NONE, x -> x.ruled(year, 0));
            EDGES.refusedAnywhere("year " + year, NONE, x -> x.ruled(year, 3));
        }
    }

    private static void aReadingStandsInPlaceOfWhatWas() {
        EDGES.of("Promise 5", "A reading of a quarter of a YEAR (in place of what was; NONE: a GAP): true");
        FoulRights x = Steps.withWorks(10);
        for (int q = 0; q < 4; q++) {
            EDGES.due("in place of a gap", x.meter(9, 0, q, 20), true);
        }
        EDGES.due("four of 20", x.fouled(9, 0), 80);
        EDGES.due("in place of 20", x.meter(9, 0, 3, 0), true);
        EDGES.due("three of 20", x.fouled(9, 0), 60);
        EDGES.due("the same once more", x.meter(9, 0, 3, 0), true);
        EDGES.due("three of 20", x.fouled(9, 0), 60);
        EDGES.due("99", x.meter(9, 0, 3, 99), true);
        EDGES.due("three of 20 and 99", x.fouled(9, 0), 159);
        EDGES.due("a gap in place of 99", x.meter(9, 0, 3, NONE), true);
        EDGES.due("three of 20 and a gap", x.fouled(9, 0), 60 + 22);
        EDGES.due("a gap in place of a gap", x.meter(9, 0, 3, NONE), true);
        EDGES.due("three of 20 and a gap", x.fouled(9, 0), 60 + 22);
        for (int works = 0; works < 9; works++) {
            EDGES.due("no other works is read", x.fouled(works, 0), 40);
        }
        EDGES.due("no year two on", x.fouled(9, 2), 40);
    }

    private static void aMeterOfNoWorksOrQuarterIsRefused() {
        EDGES.of("Promise 5", "false if there is no such WORKS or quarter");
        for (int works : Steps.outside(0, 3)) {
            EDGES.refusedAnywhere("works " + works, x -> x.meter(works, 0, 0, 5));
            EDGES.refusedAnywhere("works " + works + ", a gap", x -> x.meter(works, 0, 0, NONE));
        }
        for (int quarter : Steps.outside(0, 3)) {
            EDGES.refusedAnywhere("quarter " + quarter, x -> x.meter(1, 0, quarter, 77));
            EDGES.refusedAnywhere("quarter " + quarter + ", a gap", x -> x.meter(0, 0, quarter, NONE));
        }
    }

    private static void aMeterOfAYearToComeIsRefused() {
        EDGES.of("Promise 5", "the YEAR isn't 0 .. NOW (19 at most)");
        int[] now = {0, 1, 2, 19};
        for (int i = 0; i < now.length; i++) {
            Past past = Pasts.ANYWHERE[i];
            for (int year : Steps.outside(0, now[i])) {
                EDGES.refused("year " + year, past, x -> x.meter(0, year, 0, 77));
                EDGES.refused("year " + year + ", a gap", past, x -> x.meter(0, year, 0, NONE));
            }
            EDGES.due("year 0 of " + past, past.object().meter(0, 0, 0, 5), true);
            EDGES.due("the last year of " + past, past.object().meter(0, now[i], 0, 5), true);
        }
        FoulRights x = Steps.withWorks(1);
        for (int year = 0; year < 19; year++) {
            EDGES.due("now, " + year, x.meter(0, year, 0, 5), true);
            EDGES.due("to come, " + (year + 1), x.meter(0, year + 1, 0, 5), false);
            x.end();
        }
    }

    private static void aReadingThatCannotBeIsRefused() {
        EDGES.of("Promise 5", "or it can't be.");
        for (int reading : Steps.outside(NONE, 99)) {
            EDGES.refusedAnywhere("reading " + reading, x -> x.meter(0, 0, 1, reading));
        }
        FoulRights x = Steps.withWorks(1);
        EDGES.due("reading 99 can be", x.meter(0, 0, 1, 99), true);
        EDGES.due("reading 0 can be", x.meter(0, 0, 1, 0), true);
        EDGES.due("a gap can be", x.meter(0, 0, 1, NONE), true);
    }

    private static void fouledIsToldOfEachYear() {
        EDGES.of("Promise 6", "FOULED");
        FoulRights x = Steps.withWorks(2);
        for (int year = 0; year < 20; year++) {
            Steps.readAll(x, 1, year, year);
            x.end();
        }
        for (int year = 0; year < 20; year++) {
            EDGES.due("of year " + year, x.fouled(1, year), 4 * year);
        }
        FoulRights y = Steps.withWorks(1);
        Steps.readAll(y, 0, 0, 30);
        EDGES.due("of a year to come, by the year ahead", y.fouled(0, 1), 4 * 33);
        EDGES.due("of the last year to come", y.fouled(0, 19), 40);
    }

    private static void fouledOfNoWorksOrYearIsNone() {
        EDGES.of("Promise 6", "NONE if there is no such WORKS or YEAR.");
        for (int works : Steps.outside(0, 3)) {
            EDGES.refusedAnywhere("works " + works, NONE, x -> x.fouled(works, 0));
        }
        for (int year : Steps.outside(0, 19)) {
            EDGES.refusedAnywhere("year " + year, NONE, x -> x.fouled(3, year));
        }
        FoulRights x = Steps.withWorks(9);
        EDGES.due("the tenth did not come", x.fouled(9, 0), NONE);
        x.works();
        EDGES.due("the tenth came", x.fouled(9, 0), 40);
    }
}
