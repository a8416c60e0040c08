import java.util.ArrayList;
import java.util.List;

/**
 * Long made-up runs, the same ones each time, of at most 512 calls on each object, compared with a slow second
 * program that keeps tables by day and tries all ways, so that it shares no way of thinking with the class.
 */
public final class ModelTest {
    private static final int NONE = -1;
    private static final int THROWS_INDEX = -1000001;
    private static final int THROWS_ARGUMENT = -1000002;
    private static final int THROWS_STATE = -1000003;
    private static final int RUNS = 1500;
    private static final int CALLS = 512;

    private static final class Refused extends RuntimeException {
        private static final long serialVersionUID = 1L;
        final int why;

        Refused(int why) {
            super(null, null, false, false);
            this.why = why;
        }
    }

    private static final class Kid {
        int toldOn, days, needs, family, place, tongue, worker, home = NONE, stay = NONE, gap, seen = -1;
        int cameAt, markAt;
        final int[] orderOn = new int[30001];
        final List<int[]> reports = new ArrayList<>();
        final List<int[]> wishes = new ArrayList<>();
        final List<Boolean> visits = new ArrayList<>();

        int ageOn(int day) {
            return (days + day - toldOn) / 365;
        }
    }

    private static final class House {
        int place, tongue, beds, due;
        boolean black;
        final int[] least = new int[20001], most = new int[20001], trained = new int[20001];
        final boolean[] rests = new boolean[20001];
    }

    /** The second program. */
    private static final class Model {
        final List<Kid> kids = new ArrayList<>();
        final List<House> houses = new ArrayList<>();
        final List<int[]> orders = new ArrayList<>();
        final List<int[]> stays = new ArrayList<>();
        int now, clock;

        static void in(int v, int least, int most) {
            if (v < least || v > most) throw new Refused(THROWS_ARGUMENT);
        }

        static void room(boolean is) {
            if (!is) throw new Refused(THROWS_STATE);
        }

        static void index(int v, int size) {
            if (v < 0 || v >= size) throw new Refused(THROWS_INDEX);
        }

        Kid kid(int k) {
            index(k, kids.size());
            return kids.get(k);
        }

        House house(int h) {
            index(h, houses.size());
            return houses.get(h);
        }

        int load(int worker) {
            index(worker, 5);
            int sum = 0;
            for (Kid k : kids) {
                if (k.worker != worker) continue;
                sum += 2;
                if (k.home != NONE) sum += 3;
                for (int bit = 1; bit < 16; bit *= 2) if ((k.needs & bit) != 0) sum++;
            }
            return sum;
        }

        int child(int days, int needs, int family, int place, int tongue) {
            in(days, 0, 7000); in(needs, 0, 15); in(family, 0, 7); in(place, 0, 50); in(tongue, 0, 3);
            room(kids.size() < 16);
            Kid k = new Kid();
            k.toldOn = now; k.days = days; k.needs = needs; k.family = family; k.place = place; k.tongue = tongue;
            java.util.Arrays.fill(k.orderOn, NONE);
            int least = Integer.MAX_VALUE;
            for (int w = 4; w >= 0; w--) {
                if (load(w) <= least) {
                    least = load(w);
                    k.worker = w;
                }
            }
            kids.add(k);
            return kids.size() - 1;
        }

        int home(int place, int tongue, int beds) {
            in(place, 0, 50); in(tongue, 0, 3); in(beds, 1, 5);
            room(houses.size() < 10);
            House h = new House();
            h.place = place; h.tongue = tongue; h.beds = beds;
            java.util.Arrays.fill(h.least, NONE);
            houses.add(h);
            return houses.size() - 1;
        }

        int approve(int home, int least, int most, int until) {
            House h = house(home);
            in(least, 0, 17); in(most, least, 17); in(until, 0, 20000);
            for (int d = now; d <= 20000; d++) {
                h.least[d] = d <= until ? least : NONE;
                h.most[d] = most;
            }
            return 0;
        }

        int train(int home, int needs, int until) {
            House h = house(home);
            in(needs, 0, 15); in(until, 0, 20000);
            for (int d = now; d <= 20000; d++) h.trained[d] = d <= until ? needs : 0;
            return 0;
        }

        int rest(int home, int from, int until) {
            House h = house(home);
            in(from, now, 20000); in(until, from, 20000);
            for (int d = now; d <= 20000; d++) h.rests[d] = d >= from && d <= until;
            return 0;
        }

        int risk(int child) {
            Kid k = kid(child);
            int sum = 0;
            for (int d = Math.max(0, now - 29); d <= now; d++) {
                for (int source = 0; source < 10; source++) {
                    int most = 0;
                    for (int[] r : k.reports) if (r[0] == d && r[1] == source) most = Math.max(most, r[2]);
                    sum += most;
                }
            }
            return sum;
        }

        int report(int child, int source, int weight) {
            Kid k = kid(child);
            in(source, 0, 9); in(weight, 1, 9);
            room(k.reports.size() < 30);
            k.reports.add(new int[] {now, source, weight});
            return risk(child);
        }

        int seeBy(int child) {
            Kid k = kid(child);
            int first = Integer.MAX_VALUE;
            for (int[] r : k.reports) if (now - r[0] < 30 && r[0] > k.seen) first = Math.min(first, r[0]);
            if (first == Integer.MAX_VALUE) return NONE;
            int risk = risk(child);
            return first + (risk < 6 ? 20 : risk < 12 ? 5 : 1);
        }

        int see(int child) {
            Kid k = kid(child);
            int by = seeBy(child);
            k.seen = now;
            return by != NONE && by < now ? 1 : 0;
        }

        int order(int child, int kind, int from, int days) {
            Kid k = kid(child);
            in(kind, 0, 2); in(from, now, 20000); in(days, 1, 7000);
            room(orders.size() < 60);
            orders.add(new int[] {child, kind, from, days});
            for (int d = from; d < from + days; d++) k.orderOn[d] = orders.size() - 1;
            return orders.size() - 1;
        }

        int counts(int child, int day) {
            Kid k = kid(child);
            in(day, 0, 30000);
            return k.orderOn[day];
        }

        int kind(Kid k, int day) {
            int o = k.orderOn[day];
            return o == NONE ? NONE : orders.get(o)[1];
        }

        int wish(int child, int home, boolean isThere) {
            Kid k = kid(child);
            house(home);
            k.wishes.add(new int[] {home, isThere ? 1 : 0, k.ageOn(now)});
            return 0;
        }

        int[] wishAbout(Kid k, int home) {
            int[] latest = null;
            for (int[] w : k.wishes) if (w[0] == home) latest = w;
            return latest;
        }

        int barOn(Kid k, House h, int day) {
            if (kind(k, day) != 0) return 1;
            if (h.least[day] == NONE) return 2;
            if (k.ageOn(day) < h.least[day] || k.ageOn(day) > h.most[day]) return 3;
            if ((k.needs & h.trained[day]) != k.needs) return 4;
            return h.rests[day] ? 5 : 0;
        }

        int taken(int home, int butChild) {
            int n = 0;
            for (int k = 0; k < kids.size(); k++) if (k != butChild && kids.get(k).home == home) n++;
            return n;
        }

        boolean isBarredByWish(Kid k, int home) {
            int[] w = wishAbout(k, home);
            return w != null && w[1] == 0 && w[2] >= 12;
        }

        int why(int child, int home) {
            Kid k = kid(child);
            House h = house(home);
            int bar = barOn(k, h, now);
            if (bar != 0) return bar;
            if (taken(home, child) >= h.beds) return 6;
            return isBarredByWish(k, home) ? 7 : 0;
        }

        int worth(int child, int home) {
            Kid k = kid(child);
            House h = house(home);
            int sum = 0;
            for (int o = 0; o < kids.size(); o++) {
                if (o != child && kids.get(o).family == k.family && kids.get(o).home == home) sum += 10;
            }
            if (k.tongue == h.tongue) sum += 6;
            int[] w = wishAbout(k, home);
            if (w != null) sum += w[1] == 1 ? 8 : -8;
            int far = k.place > h.place ? k.place - h.place : h.place - k.place;
            while (far >= 5) {
                sum--;
                far -= 5;
            }
            return sum;
        }

        int best(int child) {
            kid(child);
            int best = NONE;
            for (int h = houses.size() - 1; h >= 0; h--) {
                if (why(child, h) == 0 && (best == NONE || worth(child, h) >= worth(child, best))) best = h;
            }
            return best;
        }

        void goBack(Kid k, int day) {
            if (k.stay != NONE) stays.get(k.stay)[3] = day;
            k.stay = NONE;
            k.home = NONE;
        }

        int begin(int child, int home) {
            Kid k = kids.get(child);
            goBack(k, now);
            stays.add(new int[] {child, home, now, NONE, k.orderOn[now]});
            k.stay = stays.size() - 1;
            k.home = home;
            k.markAt = ++clock;
            return k.stay;
        }

        int place(int child, int home) {
            Kid k = kid(child);
            house(home);
            room(k.home != home && why(child, home) == 0 && stays.size() < 100);
            return begin(child, home);
        }

        int placeAll(int family) {
            in(family, 0, 7);
            List<Integer> those = new ArrayList<>();
            for (int k = 0; k < kids.size(); k++) {
                Kid kid = kids.get(k);
                if (kid.family == family && kid.home == NONE && kind(kid, now) == 0) those.add(k);
            }
            room(those.size() <= 5);
            int n = those.size();
            int base = houses.size() + 1;
            int ways = 1;
            for (int i = 0; i < n; i++) ways *= base;
            int[][] worths = new int[n][base];
            boolean[][] may = new boolean[n][base];
            for (int i = 0; i < n; i++) {
                for (int h = 0; h < houses.size(); h++) {
                    Kid k = kids.get(those.get(i));
                    may[i][h] = barOn(k, houses.get(h), now) == 0 && !isBarredByWish(k, h);
                    worths[i][h] = worth(those.get(i), h);
                }
            }
            int[] free = new int[base];
            for (int h = 0; h < houses.size(); h++) free[h] = houses.get(h).beds - taken(h, NONE);
            int[] best = null;
            // From the last way to the first one, so that a tie is broken by the comparison alone.
            for (int way = ways - 1; way >= 0; way--) {
                int[] rank = rank(way, n, base, may, worths, free);
                if (rank != null && (best == null || isLess(rank, best))) best = rank;
            }
            room(stays.size() - best[0] <= 100);
            for (int i = 0; i < n; i++) if (best[3 + i] < houses.size()) begin(those.get(i), best[3 + i]);
            return -best[0];
        }

        /** Less placed, unlike homes, less worths, then the homes child by child, the number of homes for none. */
        int[] rank(int way, int n, int base, boolean[][] may, int[][] worths, int[] free) {
            int[] rank = new int[3 + n];
            int left = way;
            int[] guests = new int[base];
            for (int i = 0; i < n; i++) {
                int h = left % base;
                left /= base;
                rank[3 + i] = h;
                if (h == base - 1) continue;
                if (!may[i][h] || ++guests[h] > free[h]) return null;
                rank[0]--;
                if (guests[h] == 1) rank[1]++;
                rank[2] -= worths[i][h];
            }
            return rank;
        }

        static boolean isLess(int[] a, int[] b) {
            for (int i = 0; i < a.length; i++) if (a[i] != b[i]) return a[i] < b[i];
            return false;
        }

        int visits(int child, int days) {
            Kid k = kid(child);
            in(days, 0, 30);
            int was = k.gap;
            k.gap = days;
            return was;
        }

        int came(int child) {
            Kid k = kid(child);
            room(k.home != NONE);
            k.cameAt = ++clock;
            return 0;
        }

        int owed(int home) {
            return house(home).due;
        }

        int pay(int home, int money) {
            House h = house(home);
            in(money, 1, 100000);
            h.due -= money;
            return h.due;
        }

        int handOver(int child, int worker) {
            Kid k = kid(child);
            index(worker, 5);
            int was = k.worker;
            k.worker = worker;
            return was;
        }

        int pass(int days) {
            in(days, 1, 400);
            room(now + days <= 12000);
            for (int i = 0; i < days; i++) {
                for (Kid k : kids) {
                    if (k.home != NONE) houses.get(k.home).due += 10 + k.ageOn(now) + 5 * Integer.bitCount(k.needs);
                }
                now++;
                for (Kid k : kids) if (k.home != NONE) dawn(k);
            }
            return now;
        }

        void dawn(Kid k) {
            int kind = kind(k, now);
            if (kind == 1 || kind == NONE) {
                goBack(k, now);
                return;
            }
            int from = stays.get(k.stay)[2];
            for (int d = from + k.gap; k.gap > 0 && d <= now; d += k.gap) {
                if (d == now) {
                    k.visits.add(k.cameAt > k.markAt);
                    k.markAt = ++clock;
                }
            }
        }

        int childIs(int child, int what) {
            Kid k = kid(child);
            in(what, 0, 6);
            int n = 0;
            switch (what) {
                case 0: return k.home;
                case 1: return k.ageOn(now);
                case 2:
                    for (int[] s : stays) if (s[0] == child) n++;
                    return n;
                case 3:
                    for (boolean kept : k.visits) if (kept) n++;
                    return n;
                case 4:
                    for (boolean kept : k.visits) if (!kept) n++;
                    return n;
                case 5: return isWatched(k) ? 1 : 0;
                default: return k.worker;
            }
        }

        boolean isWatched(Kid k) {
            for (int last = k.visits.size() - 1; last >= 2; last--) {
                boolean b = k.visits.get(last);
                if (k.visits.get(last - 1) == b && k.visits.get(last - 2) == b) return !b;
            }
            return false;
        }

        int stay(int stay, int what) {
            index(stay, stays.size());
            in(what, 0, 4);
            return stays.get(stay)[what];
        }

        int wasAllowed(int stay) {
            index(stay, stays.size());
            int[] s = stays.get(stay);
            return barOn(kids.get(s[0]), houses.get(s[1]), s[2]) == 0 ? 1 : 0;
        }

        int blacken(int home, boolean is) {
            House h = house(home);
            boolean was = h.black;
            h.black = is;
            return was ? 1 : 0;
        }

        int file(int child, int place) {
            Kid k = kid(child);
            if (place < 0) throw new Refused(THROWS_INDEX);
            room(k.ageOn(now) >= 18);
            List<Integer> homes = new ArrayList<>();
            for (int[] s : stays) if (s[0] == child) homes.add(s[1]);
            if (place >= homes.size()) return NONE;
            return houses.get(homes.get(place)).black ? -2 : homes.get(place);
        }
    }

    private static long seed;

    private static int pick(int n) {
        seed = seed * 6364136223846793005L + 1442695040888963407L;
        return (int) ((seed >>> 33) % n);
    }

    /** Mostly from least to most, now and then beside it. */
    private static int near(int least, int most) {
        int odd = pick(150);
        if (odd == 0) return least - 1;
        if (odd == 1) return most + 1;
        if (odd == 2) return least;
        if (odd == 3) return most;
        return least + pick(Math.max(1, most - least + 1));
    }

    private static int day(int now) {
        return near(now, Math.min(20000, now + 1 + pick(2) * pick(60)));
    }

    private static int places = 50;
    private static int needy = 3;
    private static boolean longCare = false;
    private static boolean soon = false;

    private static int needs() {
        return pick(4) <= needy ? near(0, 15) & near(0, 15) : 0;
    }

    private static final String[] NAMES = {"child", "home", "approve", "train", "rest", "report", "see", "risk", "seeBy",
        "order", "counts", "wish", "why", "worth", "best", "place", "placeAll", "visits", "came", "pay", "owed",
        "handOver", "load", "pass", "childIs", "stay", "wasAllowed", "blacken", "file"};

    private static int[] arguments(int call, Model m, int families, int stride) {
        int kid = near(0, Math.max(0, m.kids.size() - 1));
        int home = near(0, Math.max(0, m.houses.size() - 1));
        int stay = near(0, Math.max(0, m.stays.size() - 1));
        int family = near(0, families);
        switch (NAMES[call]) {
            case "child": return new int[] {pick(3) == 0 ? near(0, 7000) : 2500 + pick(3200), needs(), family,
                near(0, places), near(0, 3)};
            case "home": return new int[] {near(0, places), near(0, 3), near(1, 1 + pick(5))};
            case "approve": {
                int least = near(0, pick(3) == 0 ? 17 : 3);
                return new int[] {home, least, near(Math.max(least, 13), 17), pick(8) == 0 ? near(0, 20000) : day(m.now) + 50 * stride};
            }
            case "train": return new int[] {home, pick(2) == 0 ? 15 : near(0, 15) | near(0, 15), day(m.now) + 50 * stride};
            case "rest": {
                int from = day(m.now);
                return new int[] {home, from, near(from, from + pick(20))};
            }
            case "report": return new int[] {kid, near(0, 3), near(1, 9)};
            case "order": return new int[] {kid, pick(3) == 0 ? near(0, 2) : 0, soon ? near(m.now, m.now) : day(m.now),
                longCare == (pick(4) != 0) ? near(1, 7000) : near(1, 20 * stride)};
            case "counts": return new int[] {kid, pick(3) == 0 ? near(0, 30000) : near(Math.max(0, m.now - 20), m.now + 40)};
            case "wish": return new int[] {kid, home, pick(2)};
            case "why": case "worth": case "place": return new int[] {kid, home};
            case "placeAll": return new int[] {family};
            case "visits": return new int[] {kid, near(0, pick(3) == 0 ? 30 : 4)};
            case "pay": return new int[] {home, near(1, 100000)};
            case "owed": return new int[] {home};
            case "handOver": return new int[] {kid, near(0, 4)};
            case "load": return new int[] {near(0, 4)};
            case "pass": return new int[] {pick(40) == 0 ? near(1, 400) : near(1, stride)};
            case "childIs": return new int[] {kid, near(0, 6)};
            case "stay": return new int[] {stay, near(0, 4)};
            case "wasAllowed": return new int[] {stay};
            case "blacken": return new int[] {home, pick(2)};
            case "file": return new int[] {kid, near(0, 4)};
            default: return new int[] {kid};
        }
    }

    private static int ask(Model m, int call, int[] a) {
        try {
            switch (NAMES[call]) {
                case "child": return m.child(a[0], a[1], a[2], a[3], a[4]);
                case "home": return m.home(a[0], a[1], a[2]);
                case "approve": return m.approve(a[0], a[1], a[2], a[3]);
                case "train": return m.train(a[0], a[1], a[2]);
                case "rest": return m.rest(a[0], a[1], a[2]);
                case "report": return m.report(a[0], a[1], a[2]);
                case "see": return m.see(a[0]);
                case "risk": return m.risk(a[0]);
                case "seeBy": return m.seeBy(a[0]);
                case "order": return m.order(a[0], a[1], a[2], a[3]);
                case "counts": return m.counts(a[0], a[1]);
                case "wish": return m.wish(a[0], a[1], a[2] == 1);
                case "why": return m.why(a[0], a[1]);
                case "worth": return m.worth(a[0], a[1]);
                case "best": return m.best(a[0]);
                case "place": return m.place(a[0], a[1]);
                case "placeAll": return m.placeAll(a[0]);
                case "visits": return m.visits(a[0], a[1]);
                case "came": return m.came(a[0]);
                case "pay": return m.pay(a[0], a[1]);
                case "owed": return m.owed(a[0]);
                case "handOver": return m.handOver(a[0], a[1]);
                case "load": return m.load(a[0]);
                case "pass": return m.pass(a[0]);
                case "childIs": return m.childIs(a[0], a[1]);
                case "stay": return m.stay(a[0], a[1]);
                case "wasAllowed": return m.wasAllowed(a[0]);
                case "blacken": return m.blacken(a[0], a[1] == 1);
                default: return m.file(a[0], a[1]);
            }
        } catch (Refused e) {
            return e.why;
        }
    }

    private static int ask(FosterHouse x, int call, int[] a) {
        try {
            switch (NAMES[call]) {
                case "child": return x.child(a[0], a[1], a[2], a[3], a[4]);
                case "home": return x.home(a[0], a[1], a[2]);
                case "approve": x.approve(a[0], a[1], a[2], a[3]); return 0;
                case "train": x.train(a[0], a[1], a[2]); return 0;
                case "rest": x.rest(a[0], a[1], a[2]); return 0;
                case "report": return x.report(a[0], a[1], a[2]);
                case "see": return x.see(a[0]) ? 1 : 0;
                case "risk": return x.risk(a[0]);
                case "seeBy": return x.seeBy(a[0]);
                case "order": return x.order(a[0], a[1], a[2], a[3]);
                case "counts": return x.counts(a[0], a[1]);
                case "wish": x.wish(a[0], a[1], a[2] == 1); return 0;
                case "why": return x.why(a[0], a[1]);
                case "worth": return x.worth(a[0], a[1]);
                case "best": return x.best(a[0]);
                case "place": return x.place(a[0], a[1]);
                case "placeAll": return x.placeAll(a[0]);
                case "visits": return x.visits(a[0], a[1]);
                case "came": x.came(a[0]); return 0;
                case "pay": return x.pay(a[0], a[1]);
                case "owed": return x.owed(a[0]);
                case "handOver": return x.handOver(a[0], a[1]);
                case "load": return x.load(a[0]);
                case "pass": return x.pass(a[0]);
                case "childIs": return x.childIs(a[0], a[1]);
                case "stay": return x.stay(a[0], a[1]);
                case "wasAllowed": return x.wasAllowed(a[0]) ? 1 : 0;
                case "blacken": return x.blacken(a[0], a[1] == 1) ? 1 : 0;
                default: return x.file(a[0], a[1]);
            }
        } catch (IndexOutOfBoundsException e) {
            return e.getClass() == IndexOutOfBoundsException.class ? THROWS_INDEX : NONE - 5000000;
        } catch (IllegalArgumentException e) {
            return e.getClass() == IllegalArgumentException.class ? THROWS_ARGUMENT : NONE - 5000000;
        } catch (IllegalStateException e) {
            return e.getClass() == IllegalStateException.class ? THROWS_STATE : NONE - 5000000;
        }
    }

    private static int callNumber(String name) {
        for (int call = 0; call < NAMES.length; call++) if (NAMES[call].equals(name)) return call;
        throw new IllegalArgumentException(name);
    }

    /** What is told more often in runs of each kind: of all, of placing, of visits and reports. */
    private static final String[][] OFTEN = {
        {"pass", "pass", "place", "place", "placeAll", "came", "childIs", "approve", "order", "file"},
        {"wish", "wish", "wish", "place", "placeAll", "placeAll", "home day", "home day", "why", "best", "rest", "handOver"},
        {"pass", "pass", "pass", "place", "placeAll", "came", "came", "childIs", "report", "report", "see", "seeBy", "risk",
            "owed", "order", "file"}};

    /** At first homes, children, approvals and orders of care, so that something can happen; then anything. */
    private static String nextCall(int at, int homes, int kids, int kind) {
        if (at < homes) return "home";
        if (at < homes + kids) return "child";
        if (at < homes + kids + homes) return "approve";
        if (at < homes + kids + 2 * homes) return "train";
        if (at < homes + 2 * kids + 2 * homes) return "order";
        if (pick(3) == 0) {
            String name = NAMES[pick(NAMES.length)];
            // Later children, homes and trainings would soon take the run's own kind away.
            boolean isLate = name.equals("child") || name.equals("home") || name.equals("train");
            return kind != 0 && isLate ? "placeAll" : name;
        }
        return OFTEN[kind][pick(OFTEN[kind].length)];
    }

    /** A day of HOME for all, so that all can be placed again. */
    private static String homeDay(FosterHouse x, Model m, StringBuilder told) {
        int order = callNumber("order");
        int before = m.orders.size();
        for (int kid = 0; kid < m.kids.size(); kid++) {
            if (m.kids.get(kid).home == NONE || pick(6) == 0) continue;
            int[] a = {kid, 1, m.now + 1, 1};
            String bad = compare(x, m, order, a, told);
            if (bad != null) return bad;
        }
        if (m.orders.size() == before) return null;
        return compare(x, m, callNumber("pass"), new int[] {pick(4) == 0 ? 1 : 2}, told);
    }

    /** The complaint, if the answers are not the same. */
    private static String compare(FosterHouse x, Model m, int call, int[] a, StringBuilder told) {
        int got = ask(x, call, a);
        int due = ask(m, call, a);
        calls++;
        told.append(NAMES[call]).append(java.util.Arrays.toString(a)).append(" -> ").append(due).append('\n');
        if (due > THROWS_INDEX) goodOf[call]++; else thrown++;
        if (NAMES[call].equals("why") && due >= 0) whyIs[due]++;
        if (NAMES[call].equals("placeAll") && due >= 0) placedAtOnce[due]++;
        if (NAMES[call].equals("childIs") && a[1] == 5 && due == 1) watched++;
        return got == due ? null : "answered " + got + ":\n" + told;
    }

    private static int calls, thrown, watched;
    private static final int[] goodOf = new int[NAMES.length];
    private static final int[] whyIs = new int[8];
    private static final int[] placedAtOnce = new int[6];

    /** The complaint of the run, null if there is none. */
    private static String run(int run) {
        seed = run * 7919L + 17;
        calls = 0;
        Model m = new Model();
        FosterHouse x = new FosterHouse();
        int kind = run % 3;
        // Many homes make the second program's ways of placing many, so those runs are few.
        int homes = run % 50 == 0 ? 10 : 2 + pick(4);
        int kids = kind == 1 ? 3 + pick(2) * 2 : run % 7 == 0 ? 16 : 3 + pick(7);
        int families = kind == 1 ? pick(3) / 2 : pick(4);
        int stride = kind == 1 ? 2 : 1 + pick(2) * 3 + pick(3) * 15;
        places = pick(3) == 0 ? 50 : 9;
        needy = pick(4);
        longCare = kind != 0;
        soon = kind == 1;
        StringBuilder told = new StringBuilder();
        for (int at = 0; calls < CALLS - 20; at++) {
            String name = nextCall(at, homes, kids, kind);
            String bad;
            if (name.equals("home day")) {
                bad = homeDay(x, m, told);
                if (bad == null && pick(4) != 0) bad = compare(x, m, callNumber("placeAll"), new int[] {pick(families + 1)}, told);
            } else {
                int[] a = arguments(callNumber(name), m, families, stride);
                int behind = at - homes - kids;
                if (behind >= 0 && behind < 2 * homes) a[0] = behind % homes;
                if (behind >= 2 * homes && behind < 2 * homes + kids) a[0] = behind - 2 * homes;
                bad = compare(x, m, callNumber(name), a, told);
            }
            if (bad != null) return bad;
        }
        return null;
    }

    private static boolean areTried(String what, int[] counts, int least) {
        boolean are = true;
        for (int i = 0; i < counts.length; i++) {
            if (counts[i] < least) {
                are = false;
                System.out.println("the runs hardly try " + what + " " + i + ": " + counts[i]);
            }
        }
        return are;
    }

    public static void main(String[] args) {
        int wrong = 0;
        for (int run = 0; run < RUNS && wrong < 5; run++) {
            String bad = run(run);
            if (bad != null) {
                wrong++;
                System.out.println("run " + run + " " + bad);
            }
        }
        boolean are = areTried("call", goodOf, 300) & areTried("why", whyIs, 100)
            & areTried("placeAll of", placedAtOnce, 50) & areTried("WATCHED", new int[] {watched}, 50);
        System.out.println("placed at once: " + java.util.Arrays.toString(placedAtOnce));
        System.out.println(RUNS + " runs, " + thrown + " calls that throw, " + wrong + " wrong");
        if (wrong != 0 || !are) System.exit(1);
    }
}
