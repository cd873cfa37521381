/** States in which refused calls are tried. In those of ANYWHERE there are the works 0 .. 3. */
final class Pasts {
    static final Past NEW = new Past("four works", x -> Steps.addWorks(x, 4));
    static final Past BUSY = new Past("a busy second year", Pasts::busy);
    static final Past BEFORE_ISSUE = new Past("a third year ahead of its issue", x -> {
        busy(x);
        x.end();
        x.meter(1, 2, 1, 3);
    });
    static final Past BEHIND_LAST_YEAR = new Past("behind the last year", x -> {
        busy(x);
        Steps.endYears(x, 19);
    });
    static final Past[] ANYWHERE = {NEW, BUSY, BEFORE_ISSUE, BEHIND_LAST_YEAR};

    private Pasts() {
    }

    /** Some of all that there can be: permits in each state, bids, a false project, debts, fines, gaps, cuts. */
    private static void busy(FoulRights x) {
        Steps.addWorks(x, 4);
        x.rule(0, Steps.what(60, 10), Steps.share(50, 7, 3));
        x.rule(1, Steps.what(40, 5), Steps.share(40, 9, 2));
        Steps.readAll(x, 0, 0, 6);
        Steps.readAll(x, 1, 0, 1);
        x.meter(2, 0, 3, 2);
        x.issue();
        x.bid(0, 20, 9);
        x.bid(1, 10, 5);
        x.auction();
        x.offset(1, 6);
        x.offset(2, 14);
        x.trade(0, 1, 3, 11);
        x.cancel(1, 2);
        x.end();
        x.meter(0, 1, 1, 5);
        x.meter(2, 1, 0, 0);
        x.issue();
        x.bid(2, 5, 8);
        x.bid(0, 30, 4);
        x.bid(1, 2, 1);
        x.offset(3, 5);
        x.trade(3, 0, 2, 70);
        x.falses(1);
        x.cut(0, 5, 30);
        x.cut(1, 3, 10);
        x.cut(3, 4, 10);
        x.cut(0, 2, 0);
    }
}
