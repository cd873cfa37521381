import java.util.Arrays;

/** A registry of rights to foul; ../shared/DOC.md says what each call must answer. */
public final class FoulRights {
    public static final int NONE = -1;

    // Another name for NONE, because a reader should see which of its two meanings is meant.
    private static final int HOUSE = -1;
    // What permit and told answer where NONE could be taken for a real answer.
    private static final int UNTOLD = -2147483648;

    private static final int YEARS = 20;
    private static final int QUARTERS = 4;
    private static final int MOST_WORKS = 10;
    private static final int MOST_RULES = 30;
    private static final int MOST_PERMITS = 4000;
    private static final int MOST_BIDS = 40;
    private static final int MOST_PROJECTS = 20;
    private static final int MOST_CUTS_EACH = 4;

    private static final int MOST_READING = 99;
    private static final int MOST_WANTED = 400;
    private static final int MOST_PRICE = 999;
    private static final int MOST_TRADE_COINS = 100000;
    private static final int MOST_OFFSET = 100;
    private static final int MOST_TONNES = 99;
    private static final int MOST_COST = 999;

    private static final int HELD = 0;
    private static final int USED = 1;
    private static final int CANCELLED = 2;

    private final Rules rules;
    private final Meters meters;
    private final Permits permits;
    private final Allotment allotment;
    private final Bids bids;
    private final Cuts allCuts;
    private final Ledger ledger;
    private final Row falseProjects;
    private int now;
    private int worksCame;
    private int projectsCame;
    private int auctionCoins;
    private boolean issuedThisYear;

    public FoulRights() {
        rules = new Rules();
        meters = new Meters();
        permits = new Permits();
        allotment = new Allotment();
        bids = new Bids();
        allCuts = new Cuts();
        ledger = new Ledger();
        falseProjects = new Row(MOST_PROJECTS, 0);
    }

    public int works() {
        if (worksCame >= MOST_WORKS) {
            return NONE;
        }
        worksCame++;
        return worksCame - 1;
    }

    public boolean rule(int year, int what, int share) {
        if (!isYear(year) || what < 0 || share < 0) {
            return false;
        }
        return rules.tell(year, what, share);
    }

    public int ruled(int year, int what) {
        if (!isYear(year)) {
            return NONE;
        }
        switch (what) {
            case 0:
                return rules.capIn(year);
            case 1:
                return rules.shareIn(year);
            case 2:
                return rules.fineIn(year);
            case 3:
                return rules.floorIn(year);
            default:
                return NONE;
        }
    }

    public boolean meter(int works, int year, int quarter, int reading) {
        boolean place = isWorks(works) && isYear(year) && year <= now && isWithin(quarter, 0, QUARTERS - 1);
        if (!place || !(reading == NONE || isWithin(reading, 0, MOST_READING))) {
            return false;
        }
        meters.read(works, year, quarter, reading);
        return true;
    }

    public int fouled(int works, int year) {
        return isWorks(works) && isYear(year) ? meters.fouledIn(works, year) : NONE;
    }

    public int issue() {
        if (!isYear(now) || issuedThisYear) {
            return NONE;
        }
        int cap = rules.capIn(now);
        if (!permits.hasRoomFor(cap)) {
            return NONE;
        }
        int given = allotment.share(cap * rules.shareIn(now) / 100, meters, worksCame, now);
        for (int w = 0; w < worksCame; w++) {
            permits.come(allotment.partOf(w), w, now, NONE);
        }
        permits.come(cap - given, HOUSE, now, NONE);
        issuedThisYear = true;
        return cap;
    }

    public int bid(int works, int n, int price) {
        if (!isWorks(works) || !isWithin(n, 1, MOST_WANTED) || !isWithin(price, 0, MOST_PRICE) || bids.areFull()) {
            return NONE;
        }
        return bids.enter(works, n, price);
    }

    public int auction() {
        if (permits.heldBy(HOUSE) == 0) {
            return NONE;
        }
        int floor = rules.floorIn(now);
        int price = hammer(floor);
        for (int i = 0; i < bids.many(); i++) {
            int sum = bids.got(i) * price;
            ledger.earn(bids.who(i), -sum);
            auctionCoins += sum;
        }
        bids.forget();
        return price;
    }

    public boolean trade(int from, int to, int n, int coins) {
        if (!isWorks(to) || from == to || !isWithin(coins, 0, MOST_TRADE_COINS) || !holdsAsMany(from, n)) {
            return false;
        }
        permits.pass(from, to, n);
        ledger.earn(from, coins);
        ledger.earn(to, -coins);
        return true;
    }

    public int offset(int works, int n) {
        if (!isWorks(works) || !isWithin(n, 1, MOST_OFFSET) || projectsCame >= MOST_PROJECTS) {
            return NONE;
        }
        if (!isYear(now) || !permits.hasRoomFor(n)) {
            return NONE;
        }
        int project = projectsCame;
        permits.come(n, works, now, project);
        projectsCame++;
        return project;
    }

    public int falses(int project) {
        if (!isWithin(project, 0, projectsCame - 1) || falseProjects.at(project) != 0) {
            return NONE;
        }
        falseProjects.put(project, 1);
        int debts = 0;
        for (int p = 0; p < permits.cameSoFar(); p++) {
            if (permits.projectOf(p) == project) {
                debts += undo(p);
            }
        }
        return debts;
    }

    public boolean cancel(int works, int n) {
        if (!holdsAsMany(works, n)) {
            return false;
        }
        permits.strike(works, n);
        return true;
    }

    public int end() {
        if (!isYear(now)) {
            return NONE;
        }
        int lacked = 0;
        for (int w = 0; w < worksCame; w++) {
            lacked += settle(w);
        }
        now++;
        issuedThisYear = false;
        return lacked;
    }

    public int permit(int number, int what) {
        return isWithin(number, 0, permits.cameSoFar() - 1) ? permits.fact(number, what) : UNTOLD;
    }

    public int told(int works, int what) {
        if (!isWorks(works)) {
            return UNTOLD;
        }
        return what == 2 ? permits.heldBy(works) : ledger.fact(works, what);
    }

    public int cut(int works, int tonnes, int cost) {
        if (!isWorks(works) || !isWithin(tonnes, 1, MOST_TONNES) || !isWithin(cost, 0, MOST_COST)) {
            return NONE;
        }
        return allCuts.offer(works, tonnes, cost);
    }

    public int least(int n) {
        return allCuts.canBe(n) ? allCuts.costOf(n) : NONE;
    }

    public int margin(int n) {
        return allCuts.canBe(n) ? allCuts.dearestOf(n) : NONE;
    }

    public int cuts(int n, int works) {
        return isWorks(works) && allCuts.canBe(n) ? allCuts.partOf(n, works) : NONE;
    }

    public int count(int what) {
        switch (what) {
            case 0:
                return now;
            case 1:
                return worksCame;
            case 2:
                return permits.cameSoFar();
            case 3:
                return permits.heldByWorks();
            case 4:
                return permits.heldBy(HOUSE);
            case 5:
                return permits.usedSoFar();
            case 6:
                return permits.cancelledSoFar();
            case 7:
                return bids.many();
            case 8:
                return auctionCoins;
            case 9:
                return ledger.allFines();
            case 10:
                return projectsCame;
            default:
                return NONE;
        }
    }

    private static boolean isWithin(int x, int lowest, int greatest) {
        return x >= lowest && x <= greatest;
    }

    private static boolean isYear(int year) {
        return isWithin(year, 0, YEARS - 1);
    }

    private boolean isWorks(int works) {
        return isWithin(works, 0, worksCame - 1);
    }

    private boolean holdsAsMany(int works, int n) {
        return isWorks(works) && isWithin(n, 1, permits.heldBy(works));
    }

    /** Hands out the HOUSE's permits and answers the price; nobody pays yet, as the last bid served sets it. */
    private int hammer(int floor) {
        int lastPrice = floor;
        for (int i = 0; i < bids.many() && bids.price(i) >= floor; i++) {
            int n = Math.min(bids.wanted(i), permits.heldBy(HOUSE));
            if (n > 0) {
                permits.pass(HOUSE, bids.who(i), n);
                bids.grant(i, n);
                lastPrice = bids.price(i);
            }
        }
        return permits.heldBy(HOUSE) == 0 ? lastPrice : floor;
    }

    /** Takes back a permit of a false project and answers how many debts that makes. */
    private int undo(int number) {
        if (permits.isHeld(number)) {
            permits.strikeOne(number);
            return 0;
        }
        ledger.owe(permits.holderOf(number), 1);
        return 1;
    }

    /** A works gives up what it needs in the year that ends; answers what lacks. */
    private int settle(int works) {
        int need = meters.fouledIn(works, now) + ledger.debtOf(works);
        int used = Math.min(need, permits.heldBy(works));
        permits.use(works, used, now);
        ledger.close(works, used, need - used, rules.fineIn(now));
        return need - used;
    }

    /** Numbers in a row. Arrays are indexed here alone, so that each index is tested before it is used. */
    private static final class Row {
        private int[] cells;

        Row(int length, int first) {
            cells = new int[Math.max(0, length)];
            Arrays.fill(cells, first);
        }

        int at(int i) {
            return i >= 0 && i < cells.length ? cells[i] : 0;
        }

        void put(int i, int value) {
            if (i >= 0 && i < cells.length) {
                cells[i] = value;
            }
        }

        void add(int i, int more) {
            put(i, at(i) + more);
        }

        void widen(int length) {
            if (length > cells.length) {
                cells = Arrays.copyOf(cells, length);
            }
        }

        /** Puts a value at a place among the first ones and moves those behind it up. */
        void squeeze(int place, int many, int value) {
            for (int i = many; i > place; i--) {
                put(i, at(i - 1));
            }
            put(place, value);
        }
    }

    private static final class Rules {
        private final Row from = new Row(MOST_RULES, 0);
        private final Row cap = new Row(MOST_RULES, 0);
        private final Row fall = new Row(MOST_RULES, 0);
        private final Row share = new Row(MOST_RULES, 0);
        private final Row fine = new Row(MOST_RULES, 0);
        private final Row floor = new Row(MOST_RULES, 0);
        private int many;

        Rules() {
        }

        boolean tell(int year, int capAndFall, int shareFineFloor) {
            int newCap = capAndFall / 1000;
            int newFall = capAndFall % 1000;
            int newShare = shareFineFloor / 100000;
            if (many >= MOST_RULES || newCap > 400 || newFall > 100 || newShare > 100) {
                return false;
            }
            from.put(many, year);
            cap.put(many, newCap);
            fall.put(many, newFall);
            share.put(many, newShare);
            fine.put(many, shareFineFloor / 100 % 1000);
            floor.put(many, shareFineFloor % 100);
            many++;
            return true;
        }

        int capIn(int year) {
            int i = inForce(year);
            int left = cap.at(i);
            for (int y = from.at(i); y < year; y++) {
                left -= left * fall.at(i) / 100;
            }
            return left;
        }

        int shareIn(int year) {
            return share.at(inForce(year));
        }

        int fineIn(int year) {
            return fine.at(inForce(year));
        }

        int floorIn(int year) {
            return floor.at(inForce(year));
        }

        /** The rule in force, or NONE, at which every row answers the 0 that is due without a rule. */
        private int inForce(int year) {
            int best = NONE;
            for (int i = 0; i < many; i++) {
                if (from.at(i) <= year && (best == NONE || from.at(i) >= from.at(best))) {
                    best = i;
                }
            }
            return best;
        }
    }

    private static final class Meters {
        private final Row readings = new Row(MOST_WORKS * YEARS * QUARTERS, NONE);

        Meters() {
        }

        void read(int works, int year, int quarter, int reading) {
            readings.put(place(works, year, quarter), reading);
        }

        int fouledIn(int works, int year) {
            int gap = gapIn(works, year);
            int sum = 0;
            for (int q = 0; q < QUARTERS; q++) {
                int reading = readings.at(place(works, year, q));
                sum += reading == NONE ? gap : reading;
            }
            return sum;
        }

        private int gapIn(int works, int year) {
            int top = Math.max(greatest(works, year), greatest(works, year - 1));
            return top == NONE ? 10 : Math.max(1, (top * 110 + 99) / 100);
        }

        private int greatest(int works, int year) {
            int top = NONE;
            // The year ahead of year 0 would be found in the cells of another works.
            for (int q = 0; q < QUARTERS && year >= 0; q++) {
                top = Math.max(top, readings.at(place(works, year, q)));
            }
            return top;
        }

        private static int place(int works, int year, int quarter) {
            return (works * YEARS + year) * QUARTERS + quarter;
        }
    }

    private static final class Permits {
        private final Row state = new Row(0, HELD);
        private final Row holder = new Row(0, HOUSE);
        private final Row cameIn = new Row(0, 0);
        private final Row usedIn = new Row(0, NONE);
        private final Row project = new Row(0, NONE);
        private final Row moves = new Row(0, 0);
        // Both by holder, the HOUSE first: how many it holds, and a number below which it holds none;
        // without the second each search for the least number would start at 0 again.
        private final Row held = new Row(MOST_WORKS + 1, 0);
        private final Row searched = new Row(MOST_WORKS + 1, 0);
        private int room;
        private int came;
        private int used;
        private int cancelled;

        Permits() {
        }

        boolean hasRoomFor(int n) {
            return n <= MOST_PERMITS - came;
        }

        void come(int n, int to, int year, int ofProject) {
            makeRoom(came + n);
            for (int i = 0; i < n; i++) {
                state.put(came, HELD);
                holder.put(came, to);
                cameIn.put(came, year);
                usedIn.put(came, NONE);
                project.put(came, ofProject);
                moves.put(came, 0);
                came++;
            }
            held.add(to + 1, n);
        }

        // All 4000 at once would make a new object dear; twice as many each time keeps the copies few.
        private void makeRoom(int needed) {
            if (needed <= room) {
                return;
            }
            room = Math.min(MOST_PERMITS, Math.max(needed, 2 * room));
            state.widen(room);
            holder.widen(room);
            cameIn.widen(room);
            usedIn.widen(room);
            project.widen(room);
            moves.widen(room);
        }

        void pass(int from, int to, int n) {
            for (int i = 0; i < n; i++) {
                int number = leastOf(from);
                holder.put(number, to);
                moves.add(number, 1);
                searched.put(to + 1, Math.min(searched.at(to + 1), number));
            }
            held.add(from + 1, -n);
            held.add(to + 1, n);
        }

        void use(int who, int n, int year) {
            for (int i = 0; i < n; i++) {
                int number = leastOf(who);
                state.put(number, USED);
                usedIn.put(number, year);
            }
            held.add(who + 1, -n);
            used += n;
        }

        void strike(int who, int n) {
            for (int i = 0; i < n; i++) {
                strikeOne(leastOf(who));
            }
        }

        void strikeOne(int number) {
            state.put(number, CANCELLED);
            held.add(holder.at(number) + 1, -1);
            cancelled++;
        }

        /** The least number that one holds; callers have seen that it holds one. */
        private int leastOf(int who) {
            int number = searched.at(who + 1);
            while (number < came && !(isHeld(number) && holder.at(number) == who)) {
                number++;
            }
            searched.put(who + 1, number);
            return number;
        }

        boolean isHeld(int number) {
            return state.at(number) == HELD;
        }

        int holderOf(int number) {
            return holder.at(number);
        }

        int projectOf(int number) {
            return project.at(number);
        }

        int heldBy(int who) {
            return held.at(who + 1);
        }

        int heldByWorks() {
            return came - used - cancelled - heldBy(HOUSE);
        }

        int cameSoFar() {
            return came;
        }

        int usedSoFar() {
            return used;
        }

        int cancelledSoFar() {
            return cancelled;
        }

        int fact(int number, int what) {
            switch (what) {
                case 0:
                    return state.at(number);
                case 1:
                    return holder.at(number);
                case 2:
                    return cameIn.at(number);
                case 3:
                    return usedIn.at(number);
                case 4:
                    return project.at(number);
                case 5:
                    return moves.at(number);
                default:
                    return UNTOLD;
            }
        }
    }

    /** How permits are given by what works fouled in the year ahead. */
    private static final class Allotment {
        private final Row fouledBefore = new Row(MOST_WORKS, 0);
        private final Row parts = new Row(MOST_WORKS, 0);
        private final Row cutOff = new Row(MOST_WORKS, 0);

        Allotment() {
        }

        int partOf(int works) {
            return parts.at(works);
        }

        /** Answers how many are given: all or none. */
        int share(int toGive, Meters meters, int works, int year) {
            int all = year == 0 ? 0 : look(meters, works, year - 1);
            int given = 0;
            for (int w = 0; w < works; w++) {
                int product = toGive * fouledBefore.at(w);
                parts.put(w, all > 0 ? product / all : 0);
                cutOff.put(w, all > 0 ? product % all : 0);
                given += parts.at(w);
            }
            return all > 0 ? giveRest(toGive, given, works) : 0;
        }

        private int look(Meters meters, int works, int year) {
            int all = 0;
            for (int w = 0; w < works; w++) {
                fouledBefore.put(w, meters.fouledIn(w, year));
                all += fouledBefore.at(w);
            }
            return all;
        }

        // One round over the works is enough: less than one permit was cut off of each.
        private int giveRest(int toGive, int givenAlready, int works) {
            int given = givenAlready;
            for (int i = 0; i < works && given < toGive; i++) {
                int next = mostCutOff(works);
                parts.add(next, 1);
                cutOff.put(next, NONE);
                given++;
            }
            return given;
        }

        private int mostCutOff(int works) {
            int best = 0;
            for (int w = 1; w < works; w++) {
                if (cutOff.at(w) > cutOff.at(best)) {
                    best = w;
                }
            }
            return best;
        }
    }

    /** Bids, kept in the order in which an auction serves them. */
    private static final class Bids {
        private final Row bidder = new Row(MOST_BIDS, 0);
        private final Row wants = new Row(MOST_BIDS, 0);
        private final Row offered = new Row(MOST_BIDS, 0);
        private final Row granted = new Row(MOST_BIDS, 0);
        private int size;

        Bids() {
        }

        boolean areFull() {
            return size >= MOST_BIDS;
        }

        int enter(int works, int n, int price) {
            int place = size;
            while (place > 0 && offered.at(place - 1) < price) {
                place--;
            }
            bidder.squeeze(place, size, works);
            wants.squeeze(place, size, n);
            offered.squeeze(place, size, price);
            granted.put(size, 0);
            size++;
            return size;
        }

        void grant(int i, int n) {
            granted.put(i, n);
        }

        void forget() {
            size = 0;
        }

        int many() {
            return size;
        }

        int who(int i) {
            return bidder.at(i);
        }

        int wanted(int i) {
            return wants.at(i);
        }

        int price(int i) {
            return offered.at(i);
        }

        int got(int i) {
            return granted.at(i);
        }
    }

    /** Cuts of all works, kept the cheapest first, of like costs by works. */
    private static final class Cuts {
        private final Row owner = new Row(MOST_WORKS * MOST_CUTS_EACH, 0);
        private final Row tonnes = new Row(MOST_WORKS * MOST_CUTS_EACH, 0);
        private final Row costs = new Row(MOST_WORKS * MOST_CUTS_EACH, 0);
        private final Row each = new Row(MOST_WORKS, 0);
        private int size;
        private int allTonnes;

        Cuts() {
        }

        int offer(int works, int newTonnes, int cost) {
            if (each.at(works) >= MOST_CUTS_EACH) {
                return NONE;
            }
            int place = size;
            while (place > 0 && comesBehind(place - 1, works, cost)) {
                place--;
            }
            owner.squeeze(place, size, works);
            tonnes.squeeze(place, size, newTonnes);
            costs.squeeze(place, size, cost);
            size++;
            allTonnes += newTonnes;
            each.add(works, 1);
            return each.at(works);
        }

        private boolean comesBehind(int i, int works, int cost) {
            return costs.at(i) > cost || costs.at(i) == cost && owner.at(i) > works;
        }

        boolean canBe(int n) {
            return n >= 0 && n <= allTonnes;
        }

        int costOf(int n) {
            int left = n;
            int sum = 0;
            for (int i = 0; i < size; i++) {
                int part = Math.min(left, tonnes.at(i));
                sum += part * costs.at(i);
                left -= part;
            }
            return sum;
        }

        int dearestOf(int n) {
            int left = n;
            int dearest = 0;
            for (int i = 0; i < size && left > 0; i++) {
                dearest = costs.at(i);
                left -= tonnes.at(i);
            }
            return dearest;
        }

        int partOf(int n, int works) {
            int left = n;
            int sum = 0;
            for (int i = 0; i < size; i++) {
                int part = Math.min(left, tonnes.at(i));
                sum += owner.at(i) == works ? part : 0;
                left -= part;
            }
            return sum;
        }
    }

    /** What works have, owe, used and paid. */
    private static final class Ledger {
        private final Row coins = new Row(MOST_WORKS, 0);
        private final Row debts = new Row(MOST_WORKS, 0);
        private final Row usedEver = new Row(MOST_WORKS, 0);
        private final Row finesEver = new Row(MOST_WORKS, 0);
        private int finesOfAll;

        Ledger() {
        }

        void earn(int works, int sum) {
            coins.add(works, sum);
        }

        void owe(int works, int more) {
            debts.add(works, more);
        }

        void close(int works, int used, int lacks, int fine) {
            coins.add(works, -lacks * fine);
            finesEver.add(works, lacks * fine);
            finesOfAll += lacks * fine;
            usedEver.add(works, used);
            debts.put(works, lacks);
        }

        int debtOf(int works) {
            return debts.at(works);
        }

        int allFines() {
            return finesOfAll;
        }

        int fact(int works, int what) {
            switch (what) {
                case 0:
                    return coins.at(works);
                case 1:
                    return debts.at(works);
                case 3:
                    return usedEver.at(works);
                case 4:
                    return finesEver.at(works);
                default:
                    return UNTOLD;
            }
        }
    }
}
