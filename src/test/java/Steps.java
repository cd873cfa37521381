/** Calls that many tests begin with. */
final class Steps {
    private Steps() {
    }

    static FoulRights withWorks(int n) {
        FoulRights x = new FoulRights();
        addWorks(x, n);
        return x;
    }

    static void addWorks(FoulRights x, int n) {
        for (int i = 0; i < n; i++) {
            x.works();
        }
    }

    /** The second number of a rule. */
    static int what(int cap, int fall) {
        return cap * 1000 + fall;
    }

    /** The third number of a rule. */
    static int share(int share, int fine, int floor) {
        return share * 100000 + fine * 100 + floor;
    }

    static void readAll(FoulRights x, int works, int year, int reading) {
        for (int q = 0; q < 4; q++) {
            x.meter(works, year, q, reading);
        }
    }

    static void endYears(FoulRights x, int n) {
        for (int i = 0; i < n; i++) {
            x.end();
        }
    }

    /** As many issues, each behind the end of a year but the first. */
    static void issueYears(FoulRights x, int n) {
        for (int i = 0; i < n; i++) {
            if (i > 0) {
                x.end();
            }
            x.issue();
        }
    }

    /** The house's permits of a first year: the rule is told, all of them come to the house. */
    static FoulRights houseHolds(int works, int permits, int floor) {
        FoulRights x = withWorks(works);
        x.rule(0, what(permits, 0), share(0, 0, floor));
        x.issue();
        return x;
    }

    /** Numbers that are not low .. high: just outside, as far off as a narrower type wraps, and the farthest. */
    static int[] outside(int low, int high) {
        return new int[] {Integer.MIN_VALUE, Integer.MIN_VALUE + 1, low - 65536, low - 256, low - 2, low - 1,
            high + 1, high + 2, high + 256, high + 65536, Integer.MAX_VALUE - 1, Integer.MAX_VALUE};
    }
}
