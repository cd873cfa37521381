/** One method for each promise of the document: ordinary calls, the edges that it names, wrong inputs. */
public final class PromisesTest {
    private static final int UNTOLD = Integer.MIN_VALUE;
    private static final int[] STRANGE = {Integer.MIN_VALUE, -2, 1000000, Integer.MAX_VALUE};
    private static final Checks CHECKS = new Checks();

    public static void main(String[] args) {
        newObject();
        works();
        rule();
        ruled();
        meter();
        fouled();
        issue();
        issueByWhatWasFouled();
        bid();
        auction();
        auctionOrder();
        trade();
        offset();
        falses();
        cancel();
        end();
        permit();
        told();
        cut();
        least();
        margin();
        cuts();
        count();
        refusedChangesNothing();
        behindTheLastYear();
        lastRuleAndProject();
        lastBid();
        lastPermit();
        lastCut();
        lastWorks();
        CHECKS.close();
    }

    private static void due(String call, long got, long want) {
        CHECKS.due(call, got, want);
    }

    private static void due(String call, boolean got, boolean want) {
        CHECKS.due(call, got, want);
    }

    private static void newObject() {
        FoulRights x = new FoulRights();
        for (int what = 0; what <= 10; what++) {
            due("1 count " + what, x.count(what), 0);
        }
        for (int year = 0; year < 20; year++) {
            for (int what = 0; what < 4; what++) {
                due("1 ruled", x.ruled(year, what), 0);
            }
        }
        due("1 least", x.least(0), 0);
        due("1 told", x.told(0, 0), UNTOLD);
        due("1 permit", x.permit(0, 0), UNTOLD);
        due("1 NONE", FoulRights.NONE, -1);
    }

    private static void works() {
        FoulRights x = new FoulRights();
        for (int w = 0; w < 10; w++) {
            due("2 works", x.works(), w);
            due("2 count", x.count(1), w + 1);
        }
        due("2 an eleventh", x.works(), -1);
        due("2 count", x.count(1), 10);
        FoulRights other = new FoulRights();
        due("2 another object", other.works(), 0);
    }

    private static void rule() {
        FoulRights x = new FoulRights();
        due("3 year -1", x.rule(-1, 0, 0), false);
        due("3 year 20", x.rule(20, 0, 0), false);
        due("3 cap 401", x.rule(0, 401000, 0), false);
        due("3 fall 101", x.rule(0, 101, 0), false);
        due("3 fall 999", x.rule(0, 400999, 0), false);
        due("3 what -1", x.rule(0, -1, 0), false);
        due("3 share 101", x.rule(0, 0, Steps.share(101, 0, 0)), false);
        due("3 share -1", x.rule(0, 0, -1), false);
        for (int strange : STRANGE) {
            due("3 strange year", x.rule(strange, 0, 0), false);
            due("3 strange what", x.rule(0, strange, 0), false);
        }
        due("3 least share", x.rule(0, 0, Integer.MIN_VALUE), false);
        due("3 greatest share", x.rule(0, 0, Integer.MAX_VALUE), false);
        due("3 all at their greatest", x.rule(19, 400100, Steps.share(100, 999, 99)), true);
        due("3 all at their least", x.rule(0, 0, 0), true);
        for (int i = 2; i < 30; i++) {
            due("3 rule " + i, x.rule(5, i * 1000, 0), true);
        }
        due("3 a 31st", x.rule(5, 77000, 0), false);
        due("3 the 30th stands", x.ruled(5, 0), 29);
        due("3 cap", x.ruled(19, 0), 400);
        due("3 share", x.ruled(19, 1), 100);
        due("3 fine", x.ruled(19, 2), 999);
        due("3 floor", x.ruled(19, 3), 99);
    }

    private static void ruled() {
        FoulRights x = new FoulRights();
        x.rule(3, 101007, Steps.share(41, 502, 63));
        due("4 ahead of the rule", x.ruled(2, 0), 0);
        due("4 cap", x.ruled(3, 0), 101);
        due("4 share", x.ruled(3, 1), 41);
        due("4 fine", x.ruled(3, 2), 502);
        due("4 floor", x.ruled(3, 3), 63);
        int[] caps = {101, 94, 88, 82, 77, 72, 67, 63, 59, 55, 52, 49, 46, 43, 40, 38, 36};
        for (int i = 0; i < caps.length; i++) {
            due("4 cap in " + (3 + i), x.ruled(3 + i, 0), caps[i]);
            due("4 share in " + (3 + i), x.ruled(3 + i, 1), 41);
        }
        x.rule(10, 300000, Steps.share(1, 2, 3));
        x.rule(3, 50100, Steps.share(4, 5, 6));
        due("4 of like years the latest", x.ruled(3, 0), 50);
        due("4 a fall of 100", x.ruled(4, 0), 0);
        due("4 till the next", x.ruled(9, 3), 6);
        due("4 the greater year", x.ruled(10, 0), 300);
        due("4 a fall of 0", x.ruled(19, 0), 300);
        due("4 year -1", x.ruled(-1, 0), -1);
        due("4 year 20", x.ruled(20, 0), -1);
        due("4 what 4", x.ruled(3, 4), -1);
        due("4 what -1", x.ruled(3, -1), -1);
        for (int strange : STRANGE) {
            due("4 strange year", x.ruled(strange, 0), -1);
            due("4 strange what", x.ruled(0, strange), -1);
        }
    }

    private static void meter() {
        FoulRights x = Steps.withWorks(2);
        due("5 reading 0", x.meter(0, 0, 0, 0), true);
        due("5 reading 99", x.meter(0, 0, 3, 99), true);
        due("5 reading 100", x.meter(0, 0, 0, 100), false);
        due("5 reading -2", x.meter(0, 0, 0, -2), false);
        due("5 quarter 4", x.meter(0, 0, 4, 1), false);
        due("5 quarter -1", x.meter(0, 0, -1, 1), false);
        due("5 works 2", x.meter(2, 0, 0, 1), false);
        due("5 works -1", x.meter(-1, 0, 0, 1), false);
        due("5 year -1", x.meter(0, -1, 0, 1), false);
        due("5 a year to come", x.meter(0, 1, 0, 1), false);
        due("5 fouled", x.fouled(0, 0), 0 + 99 + 2 * 109);
        due("5 in place of what was", x.meter(0, 0, 3, 10), true);
        due("5 fouled", x.fouled(0, 0), 0 + 10 + 2 * 11);
        due("5 a gap again", x.meter(0, 0, 3, FoulRights.NONE), true);
        due("5 fouled", x.fouled(0, 0), 0 + 3);
        for (int strange : STRANGE) {
            due("5 strange works", x.meter(strange, 0, 0, 1), false);
            due("5 strange year", x.meter(0, strange, 0, 1), false);
            due("5 strange quarter", x.meter(0, 0, strange, 1), false);
            due("5 strange reading", x.meter(0, 0, 0, strange), false);
        }
        x.end();
        due("5 now", x.meter(0, 1, 0, 1), true);
        due("5 a past year", x.meter(0, 0, 0, 1), true);
        due("5 a year to come", x.meter(0, 2, 0, 1), false);
        due("5 not another works", x.fouled(1, 0), 40);
    }

    private static void fouled() {
        FoulRights x = Steps.withWorks(3);
        due("6 only gaps", x.fouled(1, 0), 40);
        x.meter(1, 0, 2, 0);
        due("6 a gap is 1 at least", x.fouled(1, 0), 3);
        x.meter(1, 0, 3, 7);
        due("6 a begun one is whole", x.fouled(1, 0), 7 + 2 * 8);
        x.meter(1, 0, 0, 10);
        due("6 just 11", x.fouled(1, 0), 10 + 7 + 11);
        x.meter(1, 0, 1, 3);
        due("6 no gap", x.fouled(1, 0), 20);
        due("6 the year behind", x.fouled(1, 1), 44);
        due("6 two years behind", x.fouled(1, 2), 40);
        x.end();
        x.meter(1, 1, 0, 50);
        due("6 the greater of both years", x.fouled(1, 1), 50 + 3 * 55);
        x.meter(1, 1, 0, 2);
        due("6 the year ahead counts", x.fouled(1, 1), 2 + 3 * 11);
        due("6 a later year does not", x.fouled(1, 0), 20);
        Steps.endYears(x, 18);
        Steps.readAll(x, 0, 19, 99);
        due("6 year 0 looks at no other works", x.fouled(1, 0), 20);
        x.meter(1, 0, 0, -1);
        due("6 nor for a gap", x.fouled(1, 0), 8 + 7 + 3 + 0);
        due("6 works 3", x.fouled(3, 0), -1);
        due("6 works -1", x.fouled(-1, 0), -1);
        due("6 year 20", x.fouled(0, 20), -1);
        due("6 year -1", x.fouled(0, -1), -1);
        for (int strange : STRANGE) {
            due("6 strange works", x.fouled(strange, 0), -1);
            due("6 strange year", x.fouled(0, strange), -1);
        }
    }

    private static void issue() {
        FoulRights x = Steps.withWorks(1);
        x.rule(0, 400000, Steps.share(100, 0, 0));
        due("7 in year 0", x.issue(), 400);
        due("7 none is given in year 0", x.count(4), 400);
        due("7 once a year", x.issue(), -1);
        due("7 once a year", x.count(2), 400);
        Steps.readAll(x, 0, 0, 0);
        x.end();
        due("7 nothing fouled", x.issue(), 400);
        due("7 none is given", x.count(4), 800);
        x.end();
        due("7 all is given", x.issue(), 400);
        due("7 to the only works", x.told(0, 2), 400);
        Steps.endYears(x, 1);
        for (int i = 3; i < 10; i++) {
            due("7 year " + i, x.issue(), 400);
            x.end();
        }
        due("7 just 4000", x.count(2), 4000);
        due("7 more than 4000", x.issue(), -1);
        x.rule(10, 0, 0);
        due("7 none is not more", x.issue(), 0);
        due("7 but once a year", x.issue(), -1);
        Steps.endYears(x, 10);
        due("7 now 20", x.count(0), 20);
        due("7 now 20", x.issue(), -1);
        FoulRights noRule = new FoulRights();
        due("7 without a rule", noRule.issue(), 0);
        noRule.rule(0, 5000, 0);
        due("7 done all the same", noRule.issue(), -1);
    }

    private static void issueByWhatWasFouled() {
        FoulRights x = Steps.withWorks(4);
        x.rule(0, 33010, Steps.share(67, 0, 0));
        x.end();
        Steps.readAll(x, 0, 0, 1);
        Steps.readAll(x, 1, 0, 5);
        Steps.readAll(x, 2, 0, 1);
        Steps.readAll(x, 3, 0, 0);
        due("7 cap of the year", x.issue(), 30);
        due("7 20 of 30, 4 by 28", x.told(0, 2), 3);
        due("7 20 by 28", x.told(1, 2), 14);
        due("7 4 by 28", x.told(2, 2), 3);
        due("7 0 by 28", x.told(3, 2), 0);
        due("7 the house has the rest", x.count(4), 10);
        due("7 works by works", x.permit(2, 1), 0);
        due("7 works by works", x.permit(3, 1), 1);
        due("7 works by works", x.permit(16, 1), 1);
        due("7 works by works", x.permit(17, 1), 2);
        due("7 the house last", x.permit(19, 1), 2);
        due("7 the house last", x.permit(20, 1), -1);
        due("7 their year", x.permit(20, 2), 1);

        FoulRights y = Steps.withWorks(3);
        y.rule(0, 5000, Steps.share(100, 0, 0));
        y.end();
        Steps.readAll(y, 0, 0, 3);
        Steps.readAll(y, 1, 0, 3);
        Steps.readAll(y, 2, 0, 4);
        due("7 three cut off", y.issue(), 5);
        due("7 of like ones the lesser number", y.told(0, 2), 2);
        due("7 the next gets none", y.told(1, 2), 1);
        due("7 nothing was cut off", y.told(2, 2), 2);

        FoulRights z = Steps.withWorks(3);
        z.rule(0, 1000, Steps.share(100, 0, 0));
        z.end();
        Steps.readAll(z, 0, 0, 1);
        Steps.readAll(z, 1, 0, 1);
        Steps.readAll(z, 2, 0, 2);
        z.issue();
        due("7 where most was cut off", z.told(2, 2), 1);
        due("7 and nowhere else", z.count(3), 1);

        FoulRights one = Steps.withWorks(2);
        one.rule(0, 5000, Steps.share(60, 0, 0));
        one.end();
        Steps.readAll(one, 0, 0, 0);
        Steps.readAll(one, 1, 0, 0);
        one.meter(1, 0, 2, 1);
        due("7 one tonne in all", one.issue(), 5);
        due("7 all that is given goes to one", one.told(1, 2), 3);
        due("7 no more came", one.count(2), 5);
    }

    private static void bid() {
        FoulRights x = Steps.withWorks(1);
        due("8 n 0", x.bid(0, 0, 1), -1);
        due("8 n 401", x.bid(0, 401, 1), -1);
        due("8 price -1", x.bid(0, 1, -1), -1);
        due("8 price 1000", x.bid(0, 1, 1000), -1);
        due("8 works 1", x.bid(1, 1, 1), -1);
        due("8 works -1", x.bid(-1, 1, 1), -1);
        for (int strange : STRANGE) {
            due("8 strange works", x.bid(strange, 1, 1), -1);
            due("8 strange n", x.bid(0, strange, 1), -1);
            due("8 strange price", x.bid(0, 1, strange), -1);
        }
        due("8 none came", x.count(7), 0);
        due("8 the least", x.bid(0, 1, 0), 1);
        due("8 the greatest", x.bid(0, 400, 999), 2);
        for (int i = 3; i <= 40; i++) {
            due("8 bid", x.bid(0, 2, i), i);
        }
        due("8 a 41st", x.bid(0, 1, 1), -1);
        due("8 forty stay", x.count(7), 40);
        x.end();
        due("8 a year's end keeps them", x.count(7), 40);
    }

    private static void auction() {
        FoulRights x = Steps.withWorks(2);
        x.bid(0, 3, 50);
        due("9 the house holds none", x.auction(), -1);
        due("9 bids stay", x.count(7), 1);
        x.rule(0, 10000, Steps.share(0, 0, 7));
        x.issue();
        x.bid(1, 4, 7);
        x.bid(1, 4, 6);
        due("9 some are left: the floor", x.auction(), 7);
        due("9 bids are gone", x.count(7), 0);
        due("9 each pays it for each", x.told(0, 0), -21);
        due("9 just the floor is enough", x.told(1, 2), 4);
        due("9 each pays it for each", x.told(1, 0), -28);
        due("9 what it brought", x.count(8), 49);
        due("9 left", x.count(4), 3);
        due("9 no bids", x.auction(), 7);
        x.bid(0, 2, 30);
        x.bid(1, 1, 20);
        x.bid(0, 1, 10);
        due("9 the last that got any", x.auction(), 20);
        due("9 coins", x.told(0, 0), -21 - 40);
        due("9 coins", x.told(1, 0), -28 - 20);
        due("9 what both brought", x.count(8), 109);
        due("9 sold out", x.auction(), -1);
    }

    private static void auctionOrder() {
        FoulRights x = Steps.withWorks(3);
        x.rule(0, 6000, 0);
        x.issue();
        x.bid(0, 2, 5);
        x.bid(1, 3, 9);
        x.bid(2, 2, 5);
        due("9 a part is some", x.auction(), 5);
        due("9 the greatest price first", x.permit(0, 1), 1);
        due("9 the greatest price first", x.permit(2, 1), 1);
        due("9 of like ones as they came", x.permit(3, 1), 0);
        due("9 of like ones as they came", x.permit(4, 1), 0);
        due("9 the last one gets what is left", x.permit(5, 1), 2);
        due("9 the last one gets what is left", x.told(2, 2), 1);
        due("9 the last one pays for that", x.told(2, 0), -5);
        due("9 all pay the same", x.told(1, 0), -15);
    }

    private static void trade() {
        FoulRights x = Steps.withWorks(3);
        x.offset(0, 5);
        due("10 trade", x.trade(0, 1, 2, 100000), true);
        due("10 it gets coins", x.told(0, 0), 100000);
        due("10 the other pays them", x.told(1, 0), -100000);
        due("10 it holds", x.told(0, 2), 3);
        due("10 the other holds", x.told(1, 2), 2);
        due("10 of the least numbers", x.permit(1, 1), 1);
        due("10 of the least numbers", x.permit(2, 1), 0);
        due("10 for nothing", x.trade(0, 1, 1, 0), true);
        due("10 back", x.trade(1, 0, 1, 1), true);
        due("10 the least went back", x.permit(0, 1), 0);
        due("10 it went twice", x.permit(0, 5), 2);
        due("10 the least again", x.trade(0, 2, 1, 1), true);
        due("10 it went thrice", x.permit(0, 5), 3);
        due("10 it holds fewer", x.trade(0, 1, 3, 0), false);
        due("10 both are one", x.trade(0, 0, 1, 0), false);
        due("10 n 0", x.trade(0, 1, 0, 0), false);
        due("10 coins -1", x.trade(0, 1, 1, -1), false);
        due("10 coins 100001", x.trade(0, 1, 1, 100001), false);
        due("10 from 3", x.trade(3, 0, 1, 0), false);
        due("10 to 3", x.trade(0, 3, 1, 0), false);
        due("10 from the house", x.trade(-1, 0, 1, 0), false);
        due("10 to the house", x.trade(0, -1, 1, 0), false);
        for (int strange : STRANGE) {
            due("10 strange from", x.trade(strange, 0, 1, 0), false);
            due("10 strange to", x.trade(0, strange, 1, 0), false);
            due("10 strange n", x.trade(0, 1, strange, 0), false);
            due("10 strange coins", x.trade(0, 1, 1, strange), false);
        }
        due("10 all it has", x.trade(0, 1, 2, 0), true);
        due("10 none is left", x.trade(0, 1, 1, 0), false);
        due("10 coins", x.told(0, 0), 100000 - 1 + 1);
    }

    private static void offset() {
        FoulRights x = Steps.withWorks(2);
        due("11 n 0", x.offset(0, 0), -1);
        due("11 n 101", x.offset(0, 101), -1);
        due("11 works 2", x.offset(2, 1), -1);
        due("11 works -1", x.offset(-1, 1), -1);
        for (int strange : STRANGE) {
            due("11 strange works", x.offset(strange, 1), -1);
            due("11 strange n", x.offset(0, strange), -1);
        }
        due("11 none came", x.count(2), 0);
        due("11 first", x.offset(1, 100), 0);
        due("11 its works", x.told(1, 2), 100);
        due("11 its project", x.permit(99, 4), 0);
        for (int i = 1; i < 20; i++) {
            due("11 project", x.offset(0, 1), i);
        }
        due("11 a 21st", x.offset(0, 1), -1);
        due("11 permits", x.count(2), 119);

        FoulRights full = Steps.withWorks(1);
        full.rule(0, 390000, 0);
        for (int i = 0; i < 10; i++) {
            full.issue();
            full.end();
        }
        due("11 3900 and 100", full.offset(0, 100), 0);
        due("11 more than 4000", full.offset(0, 1), -1);
        due("11 4000", full.count(2), 4000);
        due("11 the last one", full.permit(3999, 4), 0);

        FoulRights late = Steps.withWorks(1);
        Steps.endYears(late, 19);
        due("11 in year 19", late.offset(0, 1), 0);
        due("11 its year", late.permit(0, 2), 19);
        late.end();
        due("11 now 20", late.offset(0, 1), -1);
    }

    private static void falses() {
        FoulRights x = Steps.withWorks(3);
        Steps.readAll(x, 0, 0, 1);
        Steps.readAll(x, 1, 0, 0);
        Steps.readAll(x, 2, 0, 0);
        x.offset(0, 10);
        x.offset(0, 3);
        x.cancel(0, 1);
        x.trade(0, 1, 2, 0);
        x.cancel(1, 1);
        x.end();
        due("12 used 3 to 6", x.permit(6, 0), 1);
        due("12 six debts", x.falses(0), 6);
        due("12 used four, cancelled one", x.told(0, 1), 5);
        due("12 cancelled one", x.told(1, 1), 1);
        due("12 no part in it", x.told(2, 1), 0);
        due("12 held: cancelled where it lies", x.permit(2, 0), 2);
        due("12 where it lies", x.permit(2, 1), 1);
        due("12 none is held", x.told(1, 2), 0);
        due("12 only the other project's", x.told(0, 2), 3);
        due("12 used stays used", x.permit(6, 0), 1);
        due("12 cancelled", x.count(6), 6);
        due("12 used", x.count(5), 4);
        due("12 once", x.falses(0), -1);
        due("12 project 2", x.falses(2), -1);
        due("12 project -1", x.falses(-1), -1);
        for (int strange : STRANGE) {
            due("12 strange project", x.falses(strange), -1);
        }
        due("12 all are held: no debt", x.falses(1), 0);
        due("12 cancelled", x.count(6), 9);
        due("12 debts stay", x.told(0, 1), 5);
    }

    private static void cancel() {
        FoulRights x = Steps.withWorks(2);
        x.offset(0, 4);
        due("13 n 0", x.cancel(0, 0), false);
        due("13 n -1", x.cancel(0, -1), false);
        due("13 it holds fewer", x.cancel(0, 5), false);
        due("13 it holds none", x.cancel(1, 1), false);
        due("13 works 2", x.cancel(2, 1), false);
        due("13 the house", x.cancel(-1, 1), false);
        for (int strange : STRANGE) {
            due("13 strange works", x.cancel(strange, 1), false);
            due("13 strange n", x.cancel(0, strange), false);
        }
        due("13 cancel", x.cancel(0, 3), true);
        due("13 the least numbers", x.permit(2, 0), 2);
        due("13 the last is held", x.permit(3, 0), 0);
        due("13 who held it", x.permit(0, 1), 0);
        due("13 count", x.count(6), 3);
        due("13 it holds", x.told(0, 2), 1);
        due("13 no debt", x.told(0, 1), 0);
        due("13 the last", x.cancel(0, 1), true);
        due("13 all gone", x.cancel(0, 1), false);
    }

    private static void end() {
        FoulRights x = Steps.withWorks(3);
        x.rule(0, 0, Steps.share(0, 3, 0));
        x.rule(1, 0, Steps.share(0, 10, 0));
        Steps.readAll(x, 0, 0, 1);
        Steps.readAll(x, 1, 0, 2);
        Steps.readAll(x, 2, 0, 5);
        x.offset(0, 4);
        x.offset(1, 10);
        x.offset(2, 7);
        due("14 what lacked", x.end(), 13);
        due("14 now", x.count(0), 1);
        due("14 just enough", x.told(0, 2), 0);
        due("14 no debt", x.told(0, 1), 0);
        due("14 more than enough", x.told(1, 2), 2);
        due("14 used", x.told(1, 3), 8);
        due("14 the least numbers", x.permit(11, 0), 1);
        due("14 the rest is held", x.permit(12, 0), 0);
        due("14 all it has", x.told(2, 3), 7);
        due("14 debt", x.told(2, 1), 13);
        due("14 the year's fine", x.told(2, 0), -39);
        due("14 fines", x.told(2, 4), 39);
        Steps.readAll(x, 0, 1, 0);
        Steps.readAll(x, 1, 1, 0);
        Steps.readAll(x, 2, 1, 1);
        x.offset(2, 10);
        due("14 debt is needed, too", x.end(), 7);
        due("14 debt", x.told(2, 1), 7);
        due("14 coins", x.told(2, 0), -39 - 70);
        due("14 all fines", x.count(9), 109);
        due("14 the year it was used in", x.permit(21, 3), 1);
        Steps.readAll(x, 2, 2, 0);
        x.trade(1, 2, 2, 0);
        x.offset(2, 5);
        due("14 others lack", x.end(), 8);
        due("14 paid off", x.told(2, 1), 0);
        Steps.endYears(x, 17);
        due("14 now 20", x.count(0), 20);
        due("14 now 20", x.end(), -1);
        due("14 it stays", x.count(0), 20);
        FoulRights empty = new FoulRights();
        due("14 no works", empty.end(), 0);
    }

    private static void permit() {
        FoulRights x = Steps.withWorks(2);
        x.rule(0, 3000, 0);
        x.end();
        x.issue();
        due("15 held", x.permit(0, 0), 0);
        due("15 by the house", x.permit(0, 1), -1);
        due("15 its year", x.permit(0, 2), 1);
        due("15 not used", x.permit(0, 3), -1);
        due("15 no project", x.permit(0, 4), -1);
        due("15 never went", x.permit(0, 5), 0);
        x.bid(0, 2, 0);
        x.auction();
        due("15 from the house", x.permit(1, 5), 1);
        x.trade(0, 1, 1, 0);
        due("15 to another one", x.permit(0, 5), 2);
        due("15 who holds it", x.permit(0, 1), 1);
        x.offset(1, 2);
        due("15 project", x.permit(3, 4), 0);
        due("15 came to it", x.permit(3, 5), 0);
        x.cancel(1, 1);
        due("15 cancelled", x.permit(0, 0), 2);
        due("15 cancelled isn't used", x.permit(0, 3), -1);
        due("15 who held it last", x.permit(0, 1), 1);
        x.end();
        due("15 used", x.permit(3, 0), 1);
        due("15 used in", x.permit(3, 3), 1);
        due("15 who held it last", x.permit(3, 1), 1);
        due("15 number 5", x.permit(5, 0), UNTOLD);
        due("15 number -1", x.permit(-1, 0), UNTOLD);
        due("15 what 6", x.permit(0, 6), UNTOLD);
        due("15 what -1", x.permit(0, -1), UNTOLD);
        for (int strange : STRANGE) {
            due("15 strange number", x.permit(strange, 0), UNTOLD);
            due("15 strange what", x.permit(0, strange), UNTOLD);
        }
    }

    private static void told() {
        FoulRights x = Steps.withWorks(2);
        x.rule(0, 0, Steps.share(0, 2, 0));
        x.offset(1, 30);
        for (int what = 0; what <= 4; what++) {
            due("16 at first", x.told(0, what), 0);
        }
        x.trade(1, 0, 10, 9);
        x.end();
        due("16 coins", x.told(0, 0), -9 - 60);
        due("16 debt", x.told(0, 1), 30);
        due("16 holds", x.told(0, 2), 0);
        due("16 used", x.told(0, 3), 10);
        due("16 fines", x.told(0, 4), 60);
        due("16 coins", x.told(1, 0), 9 - 40);
        due("16 used", x.told(1, 3), 20);
        x.offset(0, 100);
        x.end();
        due("16 used ever", x.told(0, 3), 10 + 70);
        due("16 holds", x.told(0, 2), 30);
        due("16 fines ever", x.told(1, 4), 40 + 120);
        due("16 works 2", x.told(2, 0), UNTOLD);
        due("16 works 2", x.told(2, 2), UNTOLD);
        due("16 works -1", x.told(-1, 0), UNTOLD);
        due("16 the house", x.told(-1, 2), UNTOLD);
        due("16 what 5", x.told(0, 5), UNTOLD);
        due("16 what -1", x.told(0, -1), UNTOLD);
        for (int strange : STRANGE) {
            due("16 strange works", x.told(strange, 0), UNTOLD);
            due("16 strange what", x.told(0, strange), UNTOLD);
        }
    }

    private static void cut() {
        FoulRights x = Steps.withWorks(2);
        due("17 tonnes 0", x.cut(0, 0, 1), -1);
        due("17 tonnes 100", x.cut(0, 100, 1), -1);
        due("17 cost -1", x.cut(0, 1, -1), -1);
        due("17 cost 1000", x.cut(0, 1, 1000), -1);
        due("17 works 2", x.cut(2, 1, 1), -1);
        due("17 works -1", x.cut(-1, 1, 1), -1);
        for (int strange : STRANGE) {
            due("17 strange works", x.cut(strange, 1, 1), -1);
            due("17 strange tonnes", x.cut(0, strange, 1), -1);
            due("17 strange cost", x.cut(0, 1, strange), -1);
        }
        due("17 the least", x.cut(0, 1, 0), 1);
        due("17 the greatest", x.cut(0, 99, 999), 2);
        due("17 third", x.cut(0, 1, 1), 3);
        due("17 fourth", x.cut(0, 1, 1), 4);
        due("17 a fifth", x.cut(0, 1, 1), -1);
        due("17 another works", x.cut(1, 1, 1), 1);
        due("17 all", x.least(103), 99 * 999 + 3);
        due("17 no more", x.least(104), -1);
    }

    private static void least() {
        FoulRights x = Steps.withWorks(10);
        due("18 nothing", x.least(0), 0);
        due("18 no cuts", x.least(1), -1);
        for (int w = 9; w >= 0; w--) {
            for (int i = 0; i < 4; i++) {
                x.cut(w, 99, 900 + 10 * w + i);
            }
        }
        due("18 a part of one", x.least(7), 6300);
        due("18 the cheapest first", x.least(100), 99 * 900 + 901);
        due("18 all", x.least(3960), 99 * (40 * 900 + 4 * 450 + 10 * 6));
        due("18 more than all", x.least(3961), -1);
        due("18 n -1", x.least(-1), -1);
        due("18 the least n", x.least(Integer.MIN_VALUE), -1);
        due("18 the greatest n", x.least(Integer.MAX_VALUE), -1);
    }

    private static void margin() {
        FoulRights x = Steps.withWorks(2);
        due("19 nothing", x.margin(0), 0);
        due("19 no cuts", x.margin(1), -1);
        x.cut(1, 5, 8);
        x.cut(0, 2, 3);
        due("19 nothing", x.margin(0), 0);
        due("19 one", x.margin(1), 3);
        due("19 the whole of one", x.margin(2), 3);
        due("19 the next", x.margin(3), 8);
        due("19 all", x.margin(7), 8);
        due("19 more than all", x.margin(8), -1);
        due("19 n -1", x.margin(-1), -1);
        due("19 the least n", x.margin(Integer.MIN_VALUE), -1);
        due("19 the greatest n", x.margin(Integer.MAX_VALUE), -1);
    }

    private static void cuts() {
        FoulRights x = Steps.withWorks(3);
        x.cut(2, 5, 4);
        x.cut(0, 5, 4);
        x.cut(1, 5, 4);
        x.cut(2, 1, 3);
        x.cut(0, 5, 5);
        due("20 the cheapest", x.cuts(1, 2), 1);
        due("20 of like costs the lesser", x.cuts(4, 0), 3);
        due("20 of like costs the lesser", x.cuts(8, 0), 5);
        due("20 of like costs the lesser", x.cuts(8, 1), 2);
        due("20 of like costs the lesser", x.cuts(8, 2), 1);
        due("20 the third", x.cuts(13, 2), 3);
        due("20 more cuts of one", x.cuts(17, 0), 6);
        due("20 nothing", x.cuts(0, 0), 0);
        due("20 all", x.cuts(21, 2), 6);
        due("20 more than all", x.cuts(22, 0), -1);
        due("20 n -1", x.cuts(-1, 0), -1);
        due("20 works 3", x.cuts(1, 3), -1);
        due("20 works -1", x.cuts(1, -1), -1);
        for (int strange : STRANGE) {
            due("20 strange works", x.cuts(1, strange), -1);
            due("20 strange n", x.cuts(strange, 0), -1);
        }
    }

    private static void count() {
        FoulRights x = Steps.withWorks(2);
        x.rule(0, 60000, Steps.share(0, 2, 1));
        x.issue();
        x.bid(0, 50, 3);
        x.auction();
        x.bid(0, 1, 1);
        x.bid(0, 1, 1);
        x.offset(1, 7);
        x.cancel(1, 3);
        x.end();
        int[] want = {1, 2, 67, 10, 10, 44, 3, 2, 50, 72, 1};
        for (int what = 0; what < want.length; what++) {
            due("21 count " + what, x.count(what), want[what]);
        }
        due("21 what 11", x.count(11), -1);
        due("21 what -1", x.count(-1), -1);
        for (int strange : STRANGE) {
            due("21 strange what", x.count(strange), -1);
        }
    }

    private static void refusedChangesNothing() {
        FoulRights x = Steps.withWorks(2);
        x.rule(0, 9050, Steps.share(50, 2, 1));
        x.offset(0, 5);
        x.bid(1, 2, 3);
        x.cut(0, 3, 4);
        String before = all(x);
        x.rule(0, 500000, 0);
        x.meter(0, 1, 0, 5);
        x.meter(0, 0, 4, 5);
        x.bid(0, 401, 5);
        x.auction();
        x.trade(0, 1, 6, 5);
        x.trade(0, 1, 1, -5);
        x.offset(0, 101);
        x.falses(1);
        x.cancel(0, 6);
        x.cut(0, 100, 5);
        due("refused changes nothing", all(x).equals(before), true);
    }

    private static String all(FoulRights x) {
        StringBuilder text = new StringBuilder();
        for (int what = 0; what <= 10; what++) {
            text.append(x.count(what)).append(' ');
        }
        for (int w = 0; w < 2; w++) {
            for (int what = 0; what < 5; what++) {
                text.append(x.told(w, what)).append(' ');
            }
            text.append(x.fouled(w, 0)).append(' ').append(x.fouled(w, 1)).append(' ');
        }
        for (int p = 0; p < x.count(2); p++) {
            for (int what = 0; what < 6; what++) {
                text.append(x.permit(p, what)).append(' ');
            }
        }
        return text.append(x.ruled(0, 0)).append(' ').append(x.least(3)).append(' ').append(x.least(4)).toString();
    }

    private static void behindTheLastYear() {
        FoulRights x = Steps.withWorks(2);
        x.rule(0, 10000, Steps.share(0, 5, 4));
        x.issue();
        Steps.endYears(x, 20);
        due("now 20: bid", x.bid(0, 3, 9), 1);
        due("now 20: the last rule's floor", x.auction(), 4);
        due("now 20: trade", x.trade(0, 1, 1, 1), true);
        due("now 20: cancel", x.cancel(1, 1), true);
        due("now 20: meter", x.meter(0, 19, 0, 1), true);
        due("now 20: no such year", x.meter(0, 20, 0, 1), false);
        due("now 20: works", x.works(), 2);
        due("now 20: rule", x.rule(19, 1000, 0), true);
        due("now 20: cut", x.cut(0, 1, 1), 1);
    }

    private static void lastRuleAndProject() {
        FoulRights x = Steps.withWorks(1);
        for (int i = 0; i < 29; i++) {
            x.rule(0, 0, 0);
        }
        due("the 30th rule", x.rule(0, 200010, Steps.share(11, 12, 13)), true);
        int[] want = {200, 11, 12, 13};
        for (int what = 0; what < 4; what++) {
            due("the 30th rule " + what, x.ruled(0, what), want[what]);
        }
        due("the 30th rule falls", x.ruled(1, 0), 180);
        for (int i = 0; i < 20; i++) {
            x.offset(0, 2);
        }
        due("the 20th project", x.falses(19), 0);
        due("the 20th project is false once", x.falses(19), -1);
        due("its permits", x.permit(39, 0), 2);
        due("not another's", x.permit(37, 0), 0);
    }

    private static void lastBid() {
        FoulRights x = Steps.withWorks(10);
        x.rule(0, 400000, 0);
        x.issue();
        for (int i = 0; i < 39; i++) {
            x.bid(i % 9, 10, 600 - i);
        }
        due("the 40th bid", x.bid(9, 10, 500), 40);
        due("the 40th bid's price", x.auction(), 500);
        due("the 40th bid gets", x.told(9, 2), 10);
        due("the 40th bid pays", x.told(9, 0), -5000);
        due("the 40th bid's permits are last", x.permit(390, 1), 9);
        due("all pay it", x.count(8), 400 * 500);
        due("none is left", x.count(7), 0);
    }

    private static void lastPermit() {
        FoulRights x = Steps.withWorks(10);
        x.rule(0, 399000, 0);
        for (int i = 0; i < 10; i++) {
            x.issue();
            x.end();
        }
        x.rule(10, 0, 0);
        due("3990 and 10", x.offset(9, 10), 0);
        int[] held = {0, 9, 10, -1, 0, 0};
        for (int what = 0; what < 6; what++) {
            due("the 4000th permit " + what, x.permit(3999, what), held[what]);
        }
        x.trade(9, 8, 10, 0);
        x.end();
        int[] used = {1, 8, 10, 10, 0, 1};
        for (int what = 0; what < 6; what++) {
            due("the 4000th permit, used " + what, x.permit(3999, what), used[what]);
        }
    }

    private static void lastCut() {
        FoulRights x = Steps.withWorks(10);
        for (int w = 0; w < 10; w++) {
            for (int i = 0; i < 4; i++) {
                x.cut(w, 10, 7);
            }
        }
        for (int w = 0; w < 10; w++) {
            due("cuts of all of " + w, x.cuts(400, w), 40);
        }
        due("the last cut", x.cuts(391, 9), 31);
        due("the last cut", x.least(400), 2800);
        due("the last works has 4", x.cut(9, 1, 1), -1);
    }

    private static void lastWorks() {
        FoulRights x = Steps.withWorks(10);
        x.rule(0, 100000, Steps.share(100, 3, 0));
        Steps.readAll(x, 9, 0, 0);
        x.offset(9, 5);
        x.end();
        Steps.readAll(x, 9, 0, 99);
        x.issue();
        due("the tenth is given the most", x.told(9, 2), 5 + 53);
        due("the tenth's are last", x.permit(104, 1), 9);
        x.trade(9, 8, 1, 7);
        x.cancel(9, 1);
        x.end();
        due("the tenth's coins", x.told(9, 0), 7 - 3 * (436 - 56));
        due("the tenth's debt", x.told(9, 1), 436 - 56);
        due("the tenth used", x.told(9, 3), 56);
        due("the tenth's fines", x.told(9, 4), 3 * (436 - 56));
        due("the tenth has a false project", x.falses(0), 5);
        due("the tenth's debt", x.told(9, 1), 436 - 56 + 4);
    }
}
