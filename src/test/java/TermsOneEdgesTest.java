/** Boundary cases of the document's first part of "Terms": years, works, meters, rules. */
public final class TermsOneEdgesTest {
    private static final int NONE = FoulRights.NONE;
    private static final Edges EDGES = new Edges();

    public static void main(String[] args) throws ReflectiveOperationException {
        EDGES.run(TermsOneEdgesTest.class);
    }

    private static void the512thCallStillAnswers() {
        EDGES.of("What it is", "An object is used for at most 512 calls after it has been made");
        FoulRights x = new FoulRights();
        x.works();
        for (int call = 2; call <= 511; call++) {
            x.meter(0, 0, call % 4, call % 100);
        }
        EDGES.due("the 512th call, fouled", x.fouled(0, 0), 8 + 9 + 10 + 11);

        FoulRights full = Steps.withWorks(10);
        for (int i = 0; i < 60; i++) {
            full.offset(i % 10, 100);
            full.bid(i % 10, 400, 999);
            full.cut(i % 10, 99, 999);
        }
        for (int call = 10 + 3 * 60 + 1; call <= 511; call++) {
            full.rule(call % 20, 400000, 0);
        }
        EDGES.due("the 512th call, issue at 2000 permits", full.issue(), 400);
    }

    private static void yearsAreFrom0To19() {
        EDGES.of("Terms", "YEARS are 0 .. 19");
        FoulRights x = Steps.withWorks(1);
        EDGES.due("a rule of year 0", x.rule(0, 5000, 0), true);
        EDGES.due("a rule of year 19", x.rule(19, 7000, 0), true);
        EDGES.due("year 0 is ruled", x.ruled(0, 0), 5);
        EDGES.due("year 18 is ruled", x.ruled(18, 0), 5);
        EDGES.due("year 19 is ruled", x.ruled(19, 0), 7);
        EDGES.due("fouled in year 0", x.fouled(0, 0), 40);
        EDGES.due("fouled in year 19", x.fouled(0, 19), 40);
        EDGES.refusedAnywhere("a rule of year -1", y -> y.rule(-1, 5000, 0));
        EDGES.refusedAnywhere("a rule of year 20", y -> y.rule(20, 5000, 0));
        EDGES.refusedAnywhere("year -1 is not ruled", NONE, y -> y.ruled(-1, 0));
        EDGES.refusedAnywhere("year 20 is not ruled", NONE, y -> y.ruled(20, 0));
        EDGES.refusedAnywhere("nothing is fouled in year -1", NONE, y -> y.fouled(0, -1));
        EDGES.refusedAnywhere("nothing is fouled in year 20", NONE, y -> y.fouled(0, 20));
    }

    private static void nowIs0AtFirstAnd20Last() {
        EDGES.of("Terms", "NOW is one (0 at first; 20 behind the last one).");
        FoulRights x = new FoulRights();
        EDGES.due("at first", x.count(0), 0);
        for (int year = 0; year < 20; year++) {
            EDGES.due("year " + year + " ends", x.end(), 0);
            EDGES.due("behind year " + year, x.count(0), year + 1);
        }
        EDGES.due("no other year ends", x.end(), NONE);
        EDGES.due("behind the last one", x.count(0), 20);
    }

    private static void worksAreTenAtMost() {
        EDGES.of("Terms", "WORKS have numbers as they come, at most 10.");
        FoulRights x = new FoulRights();
        for (int number = 0; number < 10; number++) {
            EDGES.due("as they come", x.works(), number);
            x.end();
        }
        EDGES.due("at most 10", x.works(), NONE);
        EDGES.due("the tenth is there", x.told(9, 0), 0);
        EDGES.due("an eleventh is not", x.told(10, 0), Integer.MIN_VALUE);
    }

    private static void coinsAre0AtFirst() {
        EDGES.of("Terms", "Each has COINS (0 at first; they may be below 0)");
        FoulRights x = Steps.withWorks(9);
        x.rule(0, 0, Steps.share(0, 1, 0));
        x.end();
        EDGES.due("a tenth comes a year later", x.works(), 9);
        EDGES.due("its coins at first", x.told(9, 0), 0);
        FoulRights y = Steps.withWorks(10);
        for (int works = 0; works < 10; works++) {
            EDGES.due("coins at first of " + works, y.told(works, 0), 0);
        }
    }

    private static void coinsMayBeBelow0() {
        EDGES.of("Terms", "Each has COINS (0 at first; they may be below 0)");
        FoulRights x = Steps.houseHolds(2, 10, 3);
        x.bid(1, 10, 4);
        EDGES.due("bought without coins", x.auction(), 4);
        EDGES.due("an auction", x.told(1, 0), -40);
        EDGES.due("sold to one without coins", x.trade(1, 0, 5, 100000), true);
        EDGES.due("a trade", x.told(0, 0), -100000);
        EDGES.due("sold to one that has less than none", x.trade(1, 0, 5, 100000), true);
        EDGES.due("a trade below 0", x.told(0, 0), -200000);
        x.rule(0, 0, Steps.share(0, 999, 0));
        x.end();
        EDGES.due("fines below 0", x.told(0, 0), -200000 - 30 * 999);
    }

    private static void debtIs0AtFirst() {
        EDGES.of("Terms", "and a DEBT (permits; 0 at first).");
        FoulRights x = Steps.withWorks(9);
        for (int works = 0; works < 9; works++) {
            EDGES.due("debt at first of " + works, x.told(works, 1), 0);
        }
        x.end();
        x.works();
        EDGES.due("debt is counted in permits, not in fines", x.told(0, 1), 40);
        EDGES.due("debt at first of one that came later", x.told(9, 1), 0);
    }

    private static void metersHaveFourQuartersAndAGapAtFirst() {
        EDGES.of("Terms", "METERS: of a WORKS for each quarter 0 .. 3 of a YEAR a reading (0 .. 99), "
            + "or a GAP (at first).");
        FoulRights x = Steps.withWorks(2);
        EDGES.due("gaps at first", x.fouled(0, 0), 4 * 10);
        EDGES.due("quarter 0, reading 0", x.meter(0, 0, 0, 0), true);
        EDGES.due("three gaps", x.fouled(0, 0), 0 + 3 * 1);
        EDGES.due("quarter 3, reading 99", x.meter(0, 0, 3, 99), true);
        EDGES.due("two gaps", x.fouled(0, 0), 0 + 99 + 2 * 109);
        EDGES.due("quarter 1", x.meter(0, 0, 1, 99), true);
        EDGES.due("one gap", x.fouled(0, 0), 0 + 99 + 99 + 109);
        EDGES.due("quarter 2", x.meter(0, 0, 2, 1), true);
        EDGES.due("no gap", x.fouled(0, 0), 0 + 99 + 99 + 1);
        EDGES.due("the other works has gaps", x.fouled(1, 0), 4 * 10);
        EDGES.refusedAnywhere("quarter -1", y -> y.meter(0, 0, -1, 5));
        EDGES.refusedAnywhere("quarter 4", y -> y.meter(0, 0, 4, 5));
        EDGES.refusedAnywhere("reading 100", y -> y.meter(0, 0, 0, 100));
        EDGES.refusedAnywhere("reading -2", y -> y.meter(0, 0, 0, -2));
    }

    private static void fouledIsTheSumOfFourQuarters() {
        EDGES.of("Terms", "FOULED in a YEAR: the sum of its four quarters");
        FoulRights x = Steps.withWorks(2);
        Steps.readAll(x, 0, 0, 0);
        EDGES.due("the least", x.fouled(0, 0), 0);
        for (int q = 0; q < 4; q++) {
            x.meter(0, 0, q, 1 << q);
        }
        EDGES.due("each quarter once", x.fouled(0, 0), 1 + 2 + 4 + 8);
        Steps.readAll(x, 0, 0, 99);
        EDGES.due("the greatest without a gap", x.fouled(0, 0), 396);
        x.end();
        EDGES.due("the greatest of gaps alone", x.fouled(0, 1), 4 * 109);
    }

    private static void aGapCountsAsTheGreatestReadingOfTheYear() {
        EDGES.of("Terms", "a GAP counts as the greatest reading of that WORKS in that YEAR and the one ahead");
        int[][] readings = {{20, 30, 25, NONE}, {30, 20, NONE, 25}, {25, NONE, 20, 30}, {NONE, 20, 25, 30}};
        for (int[] year : readings) {
            FoulRights x = Steps.withWorks(2);
            for (int q = 0; q < 4; q++) {
                x.meter(0, 0, q, year[q]);
            }
            x.meter(1, 0, 0, 99);
            EDGES.due("the greatest, where it may stand", x.fouled(0, 0), 75 + 33);
        }
    }

    private static void aGapCountsAsTheGreatestReadingOfTheYearAhead() {
        EDGES.of("Terms", "a GAP counts as the greatest reading of that WORKS in that YEAR and the one ahead");
        FoulRights x = Steps.withWorks(1);
        x.meter(0, 0, 3, 40);
        EDGES.due("the year ahead has the only one", x.fouled(0, 1), 4 * 44);
        EDGES.due("what gaps count is no reading", x.fouled(0, 2), 4 * 10);
        x.end();
        x.meter(0, 1, 0, 10);
        EDGES.due("the year ahead has the greater one", x.fouled(0, 1), 10 + 3 * 44);
        x.meter(0, 1, 0, 40);
        EDGES.due("both are alike", x.fouled(0, 1), 40 + 3 * 44);
        x.meter(0, 1, 0, 50);
        EDGES.due("the year itself has the greater one", x.fouled(0, 1), 50 + 3 * 55);
        EDGES.due("the year behind does not count", x.fouled(0, 0), 40 + 3 * 44);
        x.meter(0, 1, 0, NONE);
        x.meter(0, 0, 3, 0);
        EDGES.due("the year ahead has a reading 0", x.fouled(0, 1), 4 * 1);
    }

    private static void aGapOfYear0HasNoYearAhead() {
        EDGES.of("Terms", "a GAP counts as the greatest reading of that WORKS in that YEAR and the one ahead");
        FoulRights x = Steps.withWorks(10);
        Steps.endYears(x, 19);
        for (int works = 0; works < 10; works += 2) {
            Steps.readAll(x, works, 19, 90);
            Steps.readAll(x, works, 1, 80);
        }
        for (int works = 0; works < 10; works++) {
            EDGES.due("year 0 of " + works, x.fouled(works, 0), 4 * 10);
        }
        EDGES.due("year 19 has year 18 ahead", x.fouled(1, 19), 4 * 10);
        x.meter(1, 18, 2, 20);
        EDGES.due("year 19 counts year 18", x.fouled(1, 19), 4 * 22);
        EDGES.due("year 18 counts itself", x.fouled(1, 18), 20 + 3 * 22);
        EDGES.due("year 17 does not", x.fouled(1, 17), 4 * 10);
    }

    private static void aGapIsABegunOneAsAWholeOne() {
        EDGES.of("Terms", "times 110 by 100, a begun one as a whole one, 1 at least");
        int[][] gaps = {{1, 2}, {2, 3}, {9, 10}, {10, 11}, {11, 13}, {19, 21}, {20, 22}, {50, 55}, {89, 98},
            {90, 99}, {91, 101}, {98, 108}, {99, 109}};
        for (int[] gap : gaps) {
            FoulRights x = Steps.withWorks(1);
            x.meter(0, 0, 1, gap[0]);
            EDGES.due("three gaps beside " + gap[0], x.fouled(0, 0), gap[0] + 3 * gap[1]);
        }
        for (int reading = 1; reading <= 99; reading++) {
            FoulRights x = Steps.withWorks(1);
            x.meter(0, 0, 2, reading);
            int more = reading % 10 == 0 ? reading / 10 : reading / 10 + 1;
            EDGES.due("three gaps beside " + reading, x.fouled(0, 0), reading + 3 * (reading + more));
        }
    }

    private static void aGapIs1AtLeast() {
        EDGES.of("Terms", "times 110 by 100, a begun one as a whole one, 1 at least");
        FoulRights x = Steps.withWorks(1);
        x.meter(0, 0, 3, 0);
        EDGES.due("the only reading is 0", x.fouled(0, 0), 3 * 1);
        x.meter(0, 0, 1, 0);
        EDGES.due("two readings are 0", x.fouled(0, 0), 2 * 1);
        x.end();
        EDGES.due("the year ahead has 0 alone", x.fouled(0, 1), 4 * 1);
        Steps.readAll(x, 0, 0, 0);
        EDGES.due("without a gap it is 0", x.fouled(0, 0), 0);
    }

    private static void aGapIs10WithoutAReading() {
        EDGES.of("Terms", "as 10, if there is none.");
        FoulRights x = Steps.withWorks(2);
        for (int year = 0; year < 20; year++) {
            EDGES.due("no reading at all, year " + year, x.fouled(0, year), 40);
        }
        x.meter(1, 0, 0, 99);
        EDGES.due("another works has one", x.fouled(0, 0), 40);
        x.meter(0, 0, 0, 50);
        EDGES.due("two years ahead there is one", x.fouled(0, 2), 40);
        x.meter(0, 0, 0, NONE);
        EDGES.due("it is a gap again", x.fouled(0, 0), 40);
        EDGES.due("it is a gap again for the year behind", x.fouled(0, 1), 40);
    }

    private static void capIsFrom0To400InItsYear() {
        EDGES.of("Terms", "RULES are told from a YEAR on: a CAP (0 .. 400) of that YEAR");
        FoulRights x = new FoulRights();
        EDGES.due("cap 400", x.rule(4, Steps.what(400, 100), 0), true);
        EDGES.due("not ahead of its year", x.ruled(3, 0), 0);
        EDGES.due("whole in its year", x.ruled(4, 0), 400);
        EDGES.due("cap 1", x.rule(4, Steps.what(1, 0), 0), true);
        EDGES.due("cap 1", x.ruled(4, 0), 1);
        EDGES.due("on to year 19", x.ruled(19, 0), 1);
        EDGES.due("cap 0", x.rule(4, 0, 0), true);
        EDGES.due("cap 0", x.ruled(4, 0), 0);
        EDGES.refusedAnywhere("cap 401", y -> y.rule(4, Steps.what(401, 0), 0));
        EDGES.refusedAnywhere("cap -1", y -> y.rule(4, -1000, 0));
    }

    private static void fallIsFrom0To100() {
        EDGES.of("Terms", "FALL (0 .. 100) parts of 100 by which it is less each further YEAR");
        FoulRights x = new FoulRights();
        EDGES.due("fall 0", x.rule(0, Steps.what(400, 0), 0), true);
        EDGES.due("it does not fall", x.ruled(1, 0), 400);
        EDGES.due("it never falls", x.ruled(19, 0), 400);
        EDGES.due("fall 100", x.rule(0, Steps.what(400, 100), 0), true);
        EDGES.due("whole in its year", x.ruled(0, 0), 400);
        EDGES.due("none is left", x.ruled(1, 0), 0);
        EDGES.due("none comes back", x.ruled(19, 0), 0);
        EDGES.due("fall 99", x.rule(0, Steps.what(400, 99), 0), true);
        EDGES.due("four are left", x.ruled(1, 0), 4);
        EDGES.due("a cap of 0 falls", x.rule(0, Steps.what(0, 50), 0), true);
        EDGES.due("a cap of 0 stays", x.ruled(1, 0), 0);
        EDGES.refusedAnywhere("fall 101", y -> y.rule(0, Steps.what(400, 101), 0));
        EDGES.refusedAnywhere("fall 999", y -> y.rule(0, Steps.what(399, 999), 0));
    }

    private static void fallIsCutEachYear() {
        EDGES.of("Terms", "(cut, each time from the one ahead: CAP less CAP times FALL by 100, cut)");
        int[][] falls = {
            {100, 30, 70, 49, 35, 25, 18, 13, 10, 7, 5, 4, 3, 3, 3},
            {400, 99, 4, 1, 1, 1},
            {25, 50, 13, 7, 4, 2, 1, 1, 1},
            {99, 1, 99, 99},
            {100, 1, 99, 99, 99},
            {200, 1, 198, 197, 196},
            {1, 99, 1, 1},
            {1, 100, 0, 0},
            {2, 50, 1, 1},
            {399, 100, 0, 0},
            {399, 50, 200, 100, 50, 25, 13}};
        for (int[] fall : falls) {
            FoulRights x = new FoulRights();
            x.rule(0, Steps.what(fall[0], fall[1]), 0);
            for (int year = 1; year < fall.length - 1; year++) {
                EDGES.due("cap " + fall[0] + ", fall " + fall[1] + ", year " + year, x.ruled(year, 0), fall[year + 1]);
            }
        }
    }

    private static void shareIsFrom0To100() {
        EDGES.of("Terms", "SHARE (0 .. 100)");
        FoulRights x = new FoulRights();
        EDGES.due("share 100", x.rule(7, 0, Steps.share(100, 0, 0)), true);
        EDGES.due("share 100", x.ruled(7, 1), 100);
        EDGES.due("it does not fall", x.ruled(19, 1), 100);
        EDGES.due("share 0", x.rule(7, 0, Steps.share(0, 999, 99)), true);
        EDGES.due("share 0", x.ruled(7, 1), 0);
        EDGES.refusedAnywhere("share 101", y -> y.rule(7, 0, Steps.share(101, 0, 0)));
        EDGES.refusedAnywhere("share -1", y -> y.rule(7, 0, Steps.share(-1, 0, 0)));
    }

    private static void fineIsFrom0To999() {
        EDGES.of("Terms", "a FINE (0 .. 999)");
        FoulRights x = new FoulRights();
        EDGES.due("fine 999", x.rule(7, 0, Steps.share(0, 999, 0)), true);
        EDGES.due("fine 999", x.ruled(7, 2), 999);
        EDGES.due("it does not fall", x.ruled(19, 2), 999);
        EDGES.due("no share of it", x.ruled(7, 1), 0);
        EDGES.due("fine 0", x.rule(7, 0, Steps.share(100, 0, 99)), true);
        EDGES.due("fine 0", x.ruled(7, 2), 0);
        EDGES.refusedAnywhere("fine -1", y -> y.rule(7, 0, -100));
    }

    private static void floorIsFrom0To99() {
        EDGES.of("Terms", "a FLOOR (0 .. 99).");
        FoulRights x = new FoulRights();
        EDGES.due("floor 99", x.rule(7, 0, Steps.share(0, 0, 99)), true);
        EDGES.due("floor 99", x.ruled(7, 3), 99);
        EDGES.due("it does not fall", x.ruled(19, 3), 99);
        EDGES.due("no fine of it", x.ruled(7, 2), 0);
        EDGES.due("floor 0", x.rule(7, 0, Steps.share(100, 999, 0)), true);
        EDGES.due("floor 0", x.ruled(7, 3), 0);
        EDGES.refusedAnywhere("floor -1", y -> y.rule(7, 0, -1));
    }

    private static void theGreatestYearNotAboveIsInForce() {
        EDGES.of("Terms", "That in force in a YEAR is the one of the greatest YEAR that isn't above it");
        int[][] orders = {{5, 10, 19}, {19, 10, 5}, {10, 19, 5}};
        for (int[] order : orders) {
            FoulRights x = new FoulRights();
            for (int year : order) {
                x.rule(year, Steps.what(100 + year, 0), Steps.share(year, 200 + year, 30 + year));
            }
            for (int year = 5; year < 20; year++) {
                int from = year == 19 ? 19 : year >= 10 ? 10 : 5;
                EDGES.due("cap in " + year, x.ruled(year, 0), 100 + from);
                EDGES.due("share in " + year, x.ruled(year, 1), from);
                EDGES.due("fine in " + year, x.ruled(year, 2), 200 + from);
                EDGES.due("floor in " + year, x.ruled(year, 3), 30 + from);
            }
        }
    }

    private static void theGreaterYearIsInForceThoughItsCapIs0() {
        EDGES.of("Terms", "That in force in a YEAR is the one of the greatest YEAR that isn't above it");
        FoulRights x = new FoulRights();
        x.rule(1, 0, 0);
        x.rule(0, Steps.what(400, 0), Steps.share(100, 999, 99));
        EDGES.due("in its year", x.ruled(0, 2), 999);
        for (int what = 0; what < 4; what++) {
            EDGES.due("a rule of nothing is one, " + what, x.ruled(1, what), 0);
        }
        Steps.endYears(x, 5);
        EDGES.due("a past year's rule is told", x.rule(2, Steps.what(100, 10), 0), true);
        EDGES.due("it falls from its year on, not from now", x.ruled(5, 0), 73);
    }

    private static void ofLikeYearsTheLatestToldIsInForce() {
        EDGES.of("Terms", "(of like ones the latest told)");
        FoulRights x = new FoulRights();
        x.rule(6, Steps.what(300, 0), Steps.share(3, 3, 3));
        x.rule(6, Steps.what(100, 50), Steps.share(1, 1, 1));
        EDGES.due("the second, though it is less", x.ruled(6, 0), 100);
        EDGES.due("its fall", x.ruled(7, 0), 50);
        EDGES.due("its floor", x.ruled(7, 3), 1);
        x.rule(5, Steps.what(7, 0), Steps.share(7, 7, 7));
        EDGES.due("a later told one of a lesser year is not", x.ruled(6, 0), 100);
        x.rule(6, Steps.what(200, 0), Steps.share(2, 2, 2));
        EDGES.due("the third", x.ruled(6, 0), 200);
        EDGES.due("the third", x.ruled(19, 1), 2);
        EDGES.due("the lesser year", x.ruled(5, 2), 7);
    }

    private static void withoutARuleAllAre0() {
        EDGES.of("Terms", "without one all are 0.");
        FoulRights x = Steps.withWorks(1);
        for (int what = 0; what < 4; what++) {
            EDGES.due("no rule, year 0, " + what, x.ruled(0, what), 0);
            EDGES.due("no rule, year 19, " + what, x.ruled(19, what), 0);
        }
        x.rule(1, Steps.what(400, 0), Steps.share(100, 999, 99));
        for (int what = 0; what < 4; what++) {
            EDGES.due("ahead of the first rule, " + what, x.ruled(0, what), 0);
        }
        EDGES.due("a cap of 0", x.issue(), 0);
        EDGES.due("all lacks", x.end(), 40);
        EDGES.due("a fine of 0", x.told(0, 0), 0);
    }
}
