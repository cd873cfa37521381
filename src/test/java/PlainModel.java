import java.util.ArrayList;
import java.util.Comparator;
import java.util.List;
import java.util.TreeMap;

/** The document told a second time, slowly: whatever can be counted anew is counted anew at each call. */
final class PlainModel {
    private static final int UNTOLD = Integer.MIN_VALUE;

    private static final class Permit {
        String state = "held";
        int who;
        int year;
        int usedIn = -1;
        int project = -1;
        int moves;
    }

    private record Rule(int year, int cap, int fall, int share, int fine, int floor) { }

    private record Bid(int who, int n, int price) { }

    private record Cut(int who, int tonnes, int cost) { }

    private final List<Permit> permits = new ArrayList<>();
    private final List<Rule> rules = new ArrayList<>();
    private final List<Bid> bids = new ArrayList<>();
    private final List<Cut> cuts = new ArrayList<>();
    private final List<Integer> yearsIssued = new ArrayList<>();
    private final List<Boolean> projectIsFalse = new ArrayList<>();
    private final TreeMap<String, Integer> readings = new TreeMap<>();
    private final int[] coins = new int[10];
    private final int[] debt = new int[10];
    private final int[] fines = new int[10];
    private int works;
    private int now;
    private int brought;

    int works() {
        return works == 10 ? -1 : works++;
    }

    boolean rule(int year, int what, int share) {
        if (year < 0 || year > 19 || what < 0 || share < 0 || rules.size() == 30) {
            return false;
        }
        Rule r = new Rule(year, what / 1000, what % 1000, share / 100000, share % 100000 / 100, share % 100);
        return r.cap <= 400 && r.fall <= 100 && r.share <= 100 && rules.add(r);
    }

    private Rule inForce(int year) {
        for (int y = year; y >= 0; y--) {
            for (int i = rules.size() - 1; i >= 0; i--) {
                if (rules.get(i).year == y) {
                    return rules.get(i);
                }
            }
        }
        return new Rule(0, 0, 0, 0, 0, 0);
    }

    private int cap(int year) {
        Rule r = inForce(year);
        int cap = r.cap;
        for (int y = r.year + 1; y <= year; y++) {
            cap = cap - (int) Math.floor(cap * r.fall / 100.0);
        }
        return cap;
    }

    int ruled(int year, int what) {
        if (year < 0 || year > 19 || what < 0 || what > 3) {
            return -1;
        }
        Rule r = inForce(year);
        return new int[] {cap(year), r.share, r.fine, r.floor}[what];
    }

    boolean meter(int w, int year, int quarter, int reading) {
        if (w < 0 || w >= works || year < 0 || year > Math.min(now, 19) || quarter < 0 || quarter > 3) {
            return false;
        }
        if (reading < -1 || reading > 99) {
            return false;
        }
        readings.put(w + "/" + year + "/" + quarter, reading);
        return true;
    }

    private int reading(int w, int year, int quarter) {
        return readings.getOrDefault(w + "/" + year + "/" + quarter, -1);
    }

    int fouled(int w, int year) {
        if (w < 0 || w >= works || year < 0 || year > 19) {
            return -1;
        }
        int greatest = -1;
        for (int q = 0; q < 4; q++) {
            greatest = Math.max(greatest, Math.max(reading(w, year, q), reading(w, year - 1, q)));
        }
        int gap = greatest == -1 ? 10 : Math.max(1, (int) Math.ceil(greatest * 11 / 10.0));
        int sum = 0;
        for (int q = 0; q < 4; q++) {
            sum += reading(w, year, q) == -1 ? gap : reading(w, year, q);
        }
        return sum;
    }

    private void come(int who, int n, int project) {
        for (int i = 0; i < n; i++) {
            Permit p = new Permit();
            p.who = who;
            p.year = now;
            p.project = project;
            permits.add(p);
        }
    }

    int issue() {
        if (now == 20 || yearsIssued.contains(now) || permits.size() + cap(now) > 4000) {
            return -1;
        }
        yearsIssued.add(now);
        int cap = cap(now);
        int toGive = cap * inForce(now).share / 100;
        int all = 0;
        for (int w = 0; w < works && now > 0; w++) {
            all += fouled(w, now - 1);
        }
        int house = cap;
        if (all > 0) {
            house -= toGive;
            int[] parts = parts(toGive, all);
            for (int w = 0; w < works; w++) {
                come(w, parts[w], -1);
            }
        }
        come(-1, house, -1);
        return cap;
    }

    private int[] parts(int toGive, int all) {
        int[] parts = new int[works];
        List<Integer> order = new ArrayList<>();
        int left = toGive;
        for (int w = 0; w < works; w++) {
            order.add(w);
            parts[w] = toGive * fouled(w, now - 1) / all;
            left -= parts[w];
        }
        order.sort(Comparator.comparingInt(w -> parts[w] * all - toGive * fouled(w, now - 1)));
        for (int i = 0; i < left; i++) {
            parts[order.get(i)]++;
        }
        return parts;
    }

    private List<Permit> heldBy(int who) {
        List<Permit> held = new ArrayList<>();
        for (Permit p : permits) {
            if (p.state.equals("held") && p.who == who) {
                held.add(p);
            }
        }
        return held;
    }

    private int inState(String state) {
        int n = 0;
        for (Permit p : permits) {
            n += p.state.equals(state) ? 1 : 0;
        }
        return n;
    }

    int bid(int w, int n, int price) {
        if (w < 0 || w >= works || n < 1 || n > 400 || price < 0 || price > 999 || bids.size() == 40) {
            return -1;
        }
        bids.add(new Bid(w, n, price));
        return bids.size();
    }

    int auction() {
        List<Permit> house = heldBy(-1);
        if (house.isEmpty()) {
            return -1;
        }
        int floor = inForce(now).floor;
        List<Bid> served = new ArrayList<>();
        for (int price = 999; price >= floor; price--) {
            for (Bid b : bids) {
                for (int i = 0; b.price == price && i < b.n && served.size() < house.size(); i++) {
                    served.add(b);
                }
            }
        }
        int price = served.size() == house.size() ? served.get(served.size() - 1).price : floor;
        for (int i = 0; i < served.size(); i++) {
            house.get(i).who = served.get(i).who;
            house.get(i).moves++;
            coins[served.get(i).who] -= price;
            brought += price;
        }
        bids.clear();
        return price;
    }

    boolean trade(int from, int to, int n, int sum) {
        if (from < 0 || from >= works || to < 0 || to >= works || from == to || sum < 0 || sum > 100000) {
            return false;
        }
        List<Permit> held = heldBy(from);
        if (n < 1 || n > held.size()) {
            return false;
        }
        for (Permit p : held.subList(0, n)) {
            p.who = to;
            p.moves++;
        }
        coins[from] += sum;
        coins[to] -= sum;
        return true;
    }

    int offset(int w, int n) {
        boolean can = w >= 0 && w < works && n >= 1 && n <= 100 && now < 20;
        if (!can || projectIsFalse.size() == 20 || permits.size() + n > 4000) {
            return -1;
        }
        come(w, n, projectIsFalse.size());
        projectIsFalse.add(false);
        return projectIsFalse.size() - 1;
    }

    int falses(int project) {
        if (project < 0 || project >= projectIsFalse.size() || projectIsFalse.get(project)) {
            return -1;
        }
        projectIsFalse.set(project, true);
        int debts = 0;
        for (Permit p : permits) {
            if (p.project == project && p.state.equals("held")) {
                p.state = "cancelled";
            } else if (p.project == project) {
                debt[p.who]++;
                debts++;
            }
        }
        return debts;
    }

    boolean cancel(int w, int n) {
        if (w < 0 || w >= works || n < 1 || n > heldBy(w).size()) {
            return false;
        }
        heldBy(w).subList(0, n).forEach(p -> p.state = "cancelled");
        return true;
    }

    int end() {
        if (now == 20) {
            return -1;
        }
        int lacked = 0;
        for (int w = 0; w < works; w++) {
            int need = fouled(w, now) + debt[w];
            for (Permit p : heldBy(w)) {
                if (need > 0) {
                    p.state = "used";
                    p.usedIn = now;
                    need--;
                }
            }
            debt[w] = need;
            coins[w] -= need * inForce(now).fine;
            fines[w] += need * inForce(now).fine;
            lacked += need;
        }
        now++;
        return lacked;
    }

    int permit(int number, int what) {
        if (number < 0 || number >= permits.size() || what < 0 || what > 5) {
            return UNTOLD;
        }
        Permit p = permits.get(number);
        int state = List.of("held", "used", "cancelled").indexOf(p.state);
        return new int[] {state, p.who, p.year, p.usedIn, p.project, p.moves}[what];
    }

    int told(int w, int what) {
        if (w < 0 || w >= works || what < 0 || what > 4) {
            return UNTOLD;
        }
        int used = 0;
        for (Permit p : permits) {
            used += p.state.equals("used") && p.who == w ? 1 : 0;
        }
        return new int[] {coins[w], debt[w], heldBy(w).size(), used, fines[w]}[what];
    }

    int cut(int w, int tonnes, int cost) {
        if (w < 0 || w >= works || tonnes < 1 || tonnes > 99 || cost < 0 || cost > 999) {
            return -1;
        }
        int has = (int) cuts.stream().filter(c -> c.who == w).count();
        if (has == 4) {
            return -1;
        }
        cuts.add(new Cut(w, tonnes, cost));
        return has + 1;
    }

    /** Tonne by tonne, the cheapest first; null if there are not so many. */
    private List<Cut> tonnes(int n) {
        List<Cut> single = new ArrayList<>();
        for (Cut c : cuts) {
            for (int i = 0; i < c.tonnes; i++) {
                single.add(c);
            }
        }
        single.sort(Comparator.comparingInt(Cut::cost).thenComparingInt(Cut::who));
        return n < 0 || n > single.size() ? null : single.subList(0, n);
    }

    int least(int n) {
        List<Cut> chosen = tonnes(n);
        return chosen == null ? -1 : chosen.stream().mapToInt(Cut::cost).sum();
    }

    int margin(int n) {
        List<Cut> chosen = tonnes(n);
        return chosen == null ? -1 : chosen.stream().mapToInt(Cut::cost).max().orElse(0);
    }

    int cuts(int n, int w) {
        List<Cut> chosen = tonnes(n);
        return chosen == null || w < 0 || w >= works ? -1 : (int) chosen.stream().filter(c -> c.who == w).count();
    }

    int count(int what) {
        if (what < 0 || what > 10) {
            return -1;
        }
        int house = heldBy(-1).size();
        int allFines = 0;
        for (int f : fines) {
            allFines += f;
        }
        return new int[] {now, works, permits.size(), inState("held") - house, house, inState("used"),
            inState("cancelled"), bids.size(), brought, allFines, projectIsFalse.size()}[what];
    }
}
