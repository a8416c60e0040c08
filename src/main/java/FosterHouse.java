/**
 * Children between homes: reports, orders, placings, visits, dues, workers and files.
 * Days count from 0; in the names here "ahead" is earlier and "behind" is later, as in the document.
 */
public final class FosterHouse {
    public static final int NONE = -1;
    public static final int BLACK = -2;
    public static final int CARE = 0, HOME = 1, STAY = 2;

    private static final int MOST_CHILDREN = 16;
    private static final int MOST_HOMES = 10;
    private static final int MOST_ORDERS = 60;
    private static final int MOST_STAYS = 100;
    private static final int MOST_REPORTS = 30;
    private static final int MOST_AT_ONCE = 5;
    private static final int WORKERS = 5;

    private static final int YEAR = 365;
    private static final int LAST_TODAY = 12000;
    private static final int LAST_TOLD_DAY = 20000;
    private static final int LAST_ASKED_DAY = 30000;
    private static final int LONGEST_PASS = 400;
    private static final int LONGEST_ORDER = 7000;
    private static final int OLDEST_TOLD = 7000;
    private static final int LONGEST_VISIT_GAP = 30;
    private static final int MOST_MONEY = 100000;
    private static final int FARTHEST_PLACE = 50;
    private static final int LAST_TONGUE = 3;
    private static final int LAST_FAMILY = 7;
    private static final int LAST_SOURCE = 9;
    private static final int MOST_WEIGHT = 9;
    private static final int MOST_BEDS = 5;
    private static final int ALL_NEEDS = 15;
    private static final int MOST_YEARS = 17;
    private static final int GROWN_UP = 18;
    private static final int WISH_BINDS = 12;
    private static final int REPORT_DAYS = 30;

    private static final int NO_BAR = 0;
    private static final int BAR_CARE = 1;
    private static final int BAR_APPROVAL = 2;
    private static final int BAR_AGE = 3;
    private static final int BAR_TRAINING = 4;
    private static final int BAR_REST = 5;
    private static final int BAR_BEDS = 6;
    private static final int BAR_WISH = 7;

    private final Child[] children;
    private final Home[] homes;
    private final Stay[] stays;
    private final Plan plan;
    private int childCount;
    private int homeCount;
    private int orderCount;
    private int stayCount;
    private int today;

    public FosterHouse() {
        children = new Child[MOST_CHILDREN];
        homes = new Home[MOST_HOMES];
        stays = new Stay[MOST_STAYS];
        plan = new Plan();
    }

    // ---- children and homes

    public int child(int days, int needs, int family, int place, int tongue)
            throws IllegalArgumentException, IllegalStateException {
        require(isWithin(days, 0, OLDEST_TOLD) && isWithin(needs, 0, ALL_NEEDS)
                && isWithin(family, 0, LAST_FAMILY) && isWithin(place, 0, FARTHEST_PLACE)
                && isWithin(tongue, 0, LAST_TONGUE));
        if (childCount >= children.length) {
            throw new IllegalStateException("there are as many children as can be");
        }
        int number = childCount;
        children[number] = new Child(number, today - days, needs, family, place, tongue, leastLoadedWorker());
        childCount = number + 1;
        return number;
    }

    public int home(int place, int tongue, int beds) throws IllegalArgumentException, IllegalStateException {
        require(isWithin(place, 0, FARTHEST_PLACE) && isWithin(tongue, 0, LAST_TONGUE)
                && isWithin(beds, 1, MOST_BEDS));
        if (homeCount >= homes.length) {
            throw new IllegalStateException("there are as many homes as can be");
        }
        int number = homeCount;
        homes[number] = new Home(number, place, tongue, beds);
        homeCount = number + 1;
        return number;
    }

    public void approve(int home, int least, int most, int until)
            throws IndexOutOfBoundsException, IllegalArgumentException {
        Home h = homeAt(home);
        require(isWithin(least, 0, MOST_YEARS) && isWithin(most, least, MOST_YEARS)
                && isWithin(until, 0, LAST_TOLD_DAY));
        h.approval = new Term(h.approval, today, today, until, least, most, 0);
    }

    public void train(int home, int needs, int until) throws IndexOutOfBoundsException, IllegalArgumentException {
        Home h = homeAt(home);
        require(isWithin(needs, 0, ALL_NEEDS) && isWithin(until, 0, LAST_TOLD_DAY));
        h.training = new Term(h.training, today, today, until, 0, 0, needs);
    }

    public void rest(int home, int from, int until) throws IndexOutOfBoundsException, IllegalArgumentException {
        Home h = homeAt(home);
        require(isWithin(from, today, LAST_TOLD_DAY) && isWithin(until, from, LAST_TOLD_DAY));
        h.resting = new Term(h.resting, today, from, until, 0, 0, 0);
    }

    // ---- reports, orders, wishes

    public int report(int child, int source, int weight)
            throws IndexOutOfBoundsException, IllegalArgumentException, IllegalStateException {
        Child c = childAt(child);
        require(isWithin(source, 0, LAST_SOURCE) && isWithin(weight, 1, MOST_WEIGHT));
        if (c.reports.told >= MOST_REPORTS) {
            throw new IllegalStateException("the child has as many reports as can be");
        }
        c.reports.tell(today, source, weight);
        return c.reports.sumOn(today);
    }

    public boolean see(int child) throws IndexOutOfBoundsException {
        Child c = childAt(child);
        int by = c.reports.dayToSeeBy(today);
        c.reports.seen = today;
        return by != NONE && today > by;
    }

    public int risk(int child) throws IndexOutOfBoundsException {
        return childAt(child).reports.sumOn(today);
    }

    public int seeBy(int child) throws IndexOutOfBoundsException {
        return childAt(child).reports.dayToSeeBy(today);
    }

    public int order(int child, int kind, int from, int days)
            throws IndexOutOfBoundsException, IllegalArgumentException, IllegalStateException {
        Child c = childAt(child);
        require(isWithin(kind, CARE, STAY) && isWithin(from, today, LAST_TOLD_DAY)
                && isWithin(days, 1, LONGEST_ORDER));
        if (orderCount >= MOST_ORDERS) {
            throw new IllegalStateException("there are as many orders as can be");
        }
        int number = orderCount;
        c.lastOrder = new Order(number, kind, from, from + days, c.lastOrder);
        orderCount = number + 1;
        return number;
    }

    public int counts(int child, int day) throws IndexOutOfBoundsException, IllegalArgumentException {
        Child c = childAt(child);
        require(isWithin(day, 0, LAST_ASKED_DAY));
        return c.orderNumberOn(day);
    }

    public void wish(int child, int home, boolean isThere) throws IndexOutOfBoundsException {
        Child c = childAt(child);
        Home h = homeAt(home);
        c.tellWish(h.number, isThere, today);
    }

    // ---- placing

    public int why(int child, int home) throws IndexOutOfBoundsException {
        return barToday(childAt(child), homeAt(home));
    }

    public int worth(int child, int home) throws IndexOutOfBoundsException {
        return worthFor(childAt(child), homeAt(home));
    }

    public int best(int child) throws IndexOutOfBoundsException {
        Child c = childAt(child);
        int best = NONE;
        int bestWorth = 0;
        for (Home h : homes) {
            if (h == null || barToday(c, h) != NO_BAR) {
                continue;
            }
            int worth = worthFor(c, h);
            if (best == NONE || worth > bestWorth) {
                best = h.number;
                bestWorth = worth;
            }
        }
        return best;
    }

    public int place(int child, int home) throws IndexOutOfBoundsException, IllegalStateException {
        Child c = childAt(child);
        Home h = homeAt(home);
        if (c.isIn(h) || barToday(c, h) != NO_BAR) {
            throw new IllegalStateException("the child is there or may not be placed there");
        }
        return beginStay(c, h);
    }

    public int placeAll(int family) throws IllegalArgumentException, IllegalStateException {
        require(isWithin(family, 0, LAST_FAMILY));
        planFor(family);
        int placed = plan.search();
        if (stayCount + placed > stays.length) {
            throw new IllegalStateException("there would be more stays than can be");
        }
        for (int at = 0; at < MOST_AT_ONCE; at++) {
            Child c = plan.childAtRow(at);
            int home = plan.homeAtRow(at);
            if (c != null && home != NONE) {
                beginStay(c, homeAt(home));
            }
        }
        return placed;
    }

    // ---- visits, money, workers

    public int visits(int child, int days) throws IndexOutOfBoundsException, IllegalArgumentException {
        Child c = childAt(child);
        require(isWithin(days, 0, LONGEST_VISIT_GAP));
        int before = c.family.gap;
        c.family.gap = days;
        return before;
    }

    public void came(int child) throws IndexOutOfBoundsException, IllegalStateException {
        Child c = childAt(child);
        if (c.stay == null) {
            throw new IllegalStateException("the child is in no home");
        }
        c.family.hasCome = true;
    }

    public int pay(int home, int money) throws IndexOutOfBoundsException, IllegalArgumentException {
        Home h = homeAt(home);
        require(isWithin(money, 1, MOST_MONEY));
        h.paid += money;
        return owedTo(h);
    }

    public int owed(int home) throws IndexOutOfBoundsException {
        return owedTo(homeAt(home));
    }

    public int handOver(int child, int worker) throws IndexOutOfBoundsException {
        Child c = childAt(child);
        requireWorker(worker);
        int before = c.worker;
        c.worker = worker;
        return before;
    }

    public int load(int worker) throws IndexOutOfBoundsException {
        requireWorker(worker);
        return loadOf(worker);
    }

    public int pass(int days) throws IllegalArgumentException, IllegalStateException {
        require(isWithin(days, 1, LONGEST_PASS));
        if (today + days > LAST_TODAY) {
            throw new IllegalStateException("the day would be too late");
        }
        int then = today + days;
        for (Child c : children) {
            // No child's days change those of another one, so each goes through them alone.
            for (int day = today + 1; c != null && c.stay != null && day <= then; day++) {
                c.beginDay(day);
            }
        }
        today = then;
        return then;
    }

    // ---- asking

    public int childIs(int child, int what) throws IndexOutOfBoundsException, IllegalArgumentException {
        Child c = childAt(child);
        switch (what) {
            case 0: return c.stay == null ? NONE : c.stay.home.number;
            case 1: return c.yearsOn(today);
            case 2: return c.stays;
            case 3: return c.family.kept;
            case 4: return c.family.missed;
            case 5: return c.family.isWatched ? 1 : 0;
            case 6: return c.worker;
            default: throw new IllegalArgumentException("nothing of that kind is told of a child");
        }
    }

    public int stay(int stay, int what) throws IndexOutOfBoundsException, IllegalArgumentException {
        Stay s = stayAt(stay);
        switch (what) {
            case 0: return s.child.number;
            case 1: return s.home.number;
            case 2: return s.from;
            case 3: return s.end;
            case 4: return s.order;
            default: throw new IllegalArgumentException("nothing of that kind is told of a stay");
        }
    }

    public boolean wasAllowed(int stay) throws IndexOutOfBoundsException {
        Stay s = stayAt(stay);
        return barOnDay(s.child, s.home, s.from) == NO_BAR;
    }

    public boolean blacken(int home, boolean is) throws IndexOutOfBoundsException {
        Home h = homeAt(home);
        boolean before = h.isBlack;
        h.isBlack = is;
        return before;
    }

    public int file(int child, int place) throws IndexOutOfBoundsException, IllegalStateException {
        Child c = childAt(child);
        if (place < 0) {
            throw new IndexOutOfBoundsException("there is no such place in a file");
        }
        if (c.yearsOn(today) < GROWN_UP) {
            throw new IllegalStateException("the file is sealed");
        }
        int left = place;
        for (Stay s : stays) {
            if (s == null || s.child != c) {
                continue;
            }
            if (left == 0) {
                return s.home.isBlack ? BLACK : s.home.number;
            }
            left--;
        }
        return NONE;
    }

    // ---- looking at arguments

    private static boolean isWithin(int value, int least, int most) {
        return least <= value && value <= most;
    }

    private static void require(boolean isInRange) {
        if (!isInRange) {
            throw new IllegalArgumentException("an argument is out of range");
        }
    }

    private static void requireWorker(int worker) {
        if (!isWithin(worker, 0, WORKERS - 1)) {
            throw new IndexOutOfBoundsException("there is no such worker");
        }
    }

    private Child childAt(int number) {
        Child c = number >= 0 && number < children.length ? children[number] : null;
        if (c == null) {
            throw new IndexOutOfBoundsException("there is no such child");
        }
        return c;
    }

    private Home homeAt(int number) {
        Home h = number >= 0 && number < homes.length ? homes[number] : null;
        if (h == null) {
            throw new IndexOutOfBoundsException("there is no such home");
        }
        return h;
    }

    private Stay stayAt(int number) {
        Stay s = number >= 0 && number < stays.length ? stays[number] : null;
        if (s == null) {
            throw new IndexOutOfBoundsException("there is no such stay");
        }
        return s;
    }

    // ---- placing, money and loads inside

    /** The first of the bars 1 to 5, those that can still be looked at when the day is over. */
    private static int barOnDay(Child c, Home h, int day) {
        if (c.orderKindOn(day) != CARE) {
            return BAR_CARE;
        }
        Term approval = Term.toldBy(h.approval, day);
        if (approval == null || !approval.holdsOn(day)) {
            return BAR_APPROVAL;
        }
        if (!isWithin(c.yearsOn(day), approval.least, approval.most)) {
            return BAR_AGE;
        }
        if (!h.isTrainedFor(c.needs, day)) {
            return BAR_TRAINING;
        }
        return h.restsOn(day) ? BAR_REST : NO_BAR;
    }

    private int barToday(Child c, Home h) {
        int bar = barOnDay(c, h, today);
        if (bar != NO_BAR) {
            return bar;
        }
        if (takenBeds(h, c) >= h.beds) {
            return BAR_BEDS;
        }
        return c.refuses(h.number) ? BAR_WISH : NO_BAR;
    }

    private int takenBeds(Home h, Child except) {
        int taken = 0;
        for (Child c : children) {
            if (c != null && c != except && c.isIn(h)) {
                taken++;
            }
        }
        return taken;
    }

    private int worthFor(Child c, Home h) {
        int worth = c.wishWorth(h.number) - Math.abs(c.place - h.place) / 5;
        if (c.tongue == h.tongue) {
            worth += 6;
        }
        for (Child other : children) {
            if (other != null && other != c && other.kin == c.kin && other.isIn(h)) {
                worth += 10;
            }
        }
        return worth;
    }

    /** Throws before it changes anything, so that its callers need not look whether there is room. */
    private int beginStay(Child c, Home h) {
        int number = stayCount;
        if (number >= stays.length) {
            throw new IllegalStateException("there are as many stays as can be");
        }
        c.endStay(today);
        Stay s = new Stay(c, h, today, c.orderNumberOn(today));
        c.beginStay(s);
        stays[number] = s;
        stayCount = number + 1;
        return number;
    }

    private void planFor(int family) {
        plan.clear();
        for (Home h : homes) {
            if (h != null) {
                plan.setBeds(h.number, h.beds - takenBeds(h, null));
            }
        }
        for (Child c : children) {
            if (c != null && c.kin == family && c.stay == null && c.orderKindOn(today) == CARE) {
                planChild(c);
            }
        }
    }

    private void planChild(Child c) {
        int row = plan.addChild(c);
        if (row == NONE) {
            throw new IllegalStateException("more children are to be placed than can be at once");
        }
        for (Home h : homes) {
            if (h != null && barOnDay(c, h, today) == NO_BAR && !c.refuses(h.number)) {
                plan.allow(row, h.number, worthFor(c, h));
            }
        }
    }

    private int owedTo(Home h) {
        int owed = -h.paid;
        for (Stay s : stays) {
            if (s != null && s.home == h) {
                owed += s.duesUpTo(today);
            }
        }
        return owed;
    }

    private int loadOf(int worker) {
        int load = 0;
        for (Child c : children) {
            if (c != null && c.worker == worker) {
                load += 2 + (c.stay != null ? 3 : 0) + Integer.bitCount(c.needs);
            }
        }
        return load;
    }

    private int leastLoadedWorker() {
        int least = 0;
        int leastLoad = loadOf(0);
        for (int worker = 1; worker < WORKERS; worker++) {
            int load = loadOf(worker);
            if (load < leastLoad) {
                least = worker;
                leastLoad = load;
            }
        }
        return least;
    }

    private static final class Child {
        private static final int NO_WISH = 0;
        private static final int WISH_THERE = 1;
        private static final int WISH_AWAY = 2;
        private static final int WISH_AWAY_BINDING = 3;

        final int number;
        final int born;
        final int needs;
        final int kin;
        final int place;
        final int tongue;
        final int[] wishes;
        final Reports reports;
        final Family family;
        int worker;
        Order lastOrder;
        Stay stay;
        int stays;

        Child(int number, int born, int needs, int kin, int place, int tongue, int worker) {
            this.number = number;
            this.born = born;
            this.needs = needs;
            this.kin = kin;
            this.place = place;
            this.tongue = tongue;
            this.worker = worker;
            wishes = new int[MOST_HOMES];
            reports = new Reports();
            family = new Family();
        }

        int yearsOn(int day) {
            return (day - born) / YEAR;
        }

        boolean isIn(Home h) {
            return stay != null && stay.home == h;
        }

        Order orderOn(int day) {
            Order o = lastOrder;
            while (o != null && !o.holdsOn(day)) {
                o = o.before;
            }
            return o;
        }

        int orderNumberOn(int day) {
            Order o = orderOn(day);
            return o == null ? NONE : o.number;
        }

        int orderKindOn(int day) {
            Order o = orderOn(day);
            return o == null ? NONE : o.kind;
        }

        /** The age is that of the wish: growing up later does not make an old wish bind. */
        void tellWish(int home, boolean isThere, int day) {
            if (home < 0 || home >= wishes.length) {
                return;
            }
            if (isThere) {
                wishes[home] = WISH_THERE;
            } else {
                wishes[home] = yearsOn(day) >= WISH_BINDS ? WISH_AWAY_BINDING : WISH_AWAY;
            }
        }

        int wishAbout(int home) {
            return home >= 0 && home < wishes.length ? wishes[home] : NO_WISH;
        }

        boolean refuses(int home) {
            return wishAbout(home) == WISH_AWAY_BINDING;
        }

        int wishWorth(int home) {
            int wish = wishAbout(home);
            if (wish == NO_WISH) {
                return 0;
            }
            return wish == WISH_THERE ? 8 : -8;
        }

        void beginStay(Stay begun) {
            stay = begun;
            stays++;
            family.hasCome = false;
        }

        void endStay(int day) {
            if (stay != null) {
                stay.end = day;
                stay = null;
            }
        }

        /** Going back comes first: a visit is due only on a day on which the child is still there. */
        void beginDay(int day) {
            if (stay == null) {
                return;
            }
            int kind = orderKindOn(day);
            if (kind != CARE && kind != STAY) {
                endStay(day);
            } else {
                family.beginDay(day - stay.from);
            }
        }
    }

    private static final class Home {
        final int number;
        final int place;
        final int tongue;
        final int beds;
        Term approval;
        Term training;
        Term resting;
        int paid;
        boolean isBlack;

        Home(int number, int place, int tongue, int beds) {
            this.number = number;
            this.place = place;
            this.tongue = tongue;
            this.beds = beds;
        }

        boolean isTrainedFor(int needs, int day) {
            Term t = Term.toldBy(training, day);
            int trained = t != null && t.holdsOn(day) ? t.needs : 0;
            return (needs & ~trained) == 0;
        }

        boolean restsOn(int day) {
            Term t = Term.toldBy(resting, day);
            return t != null && t.holdsOn(day);
        }
    }

    /** What a home was told at one time: its approval (least, most), its training (needs) or its rest. */
    private static final class Term {
        final Term before;
        final int told;
        final int from;
        final int until;
        final int least;
        final int most;
        final int needs;

        Term(Term latest, int told, int from, int until, int least, int most, int needs) {
            // What was told on the same day never held, so it is dropped and the chain stays short.
            this.before = latest != null && latest.told == told ? latest.before : latest;
            this.told = told;
            this.from = from;
            this.until = until;
            this.least = least;
            this.most = most;
            this.needs = needs;
        }

        boolean holdsOn(int day) {
            return from <= day && day <= until;
        }

        /** The term that is in force on a day, which may be over: later ones are only for days behind it. */
        static Term toldBy(Term latest, int day) {
            Term t = latest;
            while (t != null && t.told > day) {
                t = t.before;
            }
            return t;
        }
    }

    private static final class Order {
        final int number;
        final int kind;
        final int from;
        final int end;
        final Order before;

        Order(int number, int kind, int from, int end, Order before) {
            this.number = number;
            this.kind = kind;
            this.from = from;
            this.end = end;
            this.before = before;
        }

        boolean holdsOn(int day) {
            return from <= day && day < end;
        }
    }

    private static final class Stay {
        final Child child;
        final Home home;
        final int from;
        final int order;
        int end;

        Stay(Child child, Home home, int from, int order) {
            this.child = child;
            this.home = home;
            this.from = from;
            this.order = order;
            this.end = NONE;
        }

        int duesUpTo(int day) {
            int over = end == NONE ? day : end;
            int each = 10 + 5 * Integer.bitCount(child.needs);
            return (over - from) * each + yearsSummed(over - child.born) - yearsSummed(from - child.born);
        }

        /** The whole years of age, summed over so many first days of a life; a loop over long stays would be slow. */
        private static int yearsSummed(int days) {
            int years = days / YEAR;
            return YEAR * (years * (years - 1) / 2) + days % YEAR * years;
        }
    }

    private static final class Reports {
        final int[] days;
        final int[] sources;
        final int[] weights;
        int rows;
        int told;
        int seen;

        Reports() {
            days = new int[MOST_REPORTS];
            sources = new int[MOST_REPORTS];
            weights = new int[MOST_REPORTS];
            seen = NONE;
        }

        /** Reports of one source on one day share a row, as only the greatest of them weighs. */
        void tell(int day, int source, int weight) {
            told++;
            for (int row = 0; row < rows && row < MOST_REPORTS; row++) {
                if (days[row] == day && sources[row] == source) {
                    weights[row] = Math.max(weights[row], weight);
                    return;
                }
            }
            if (rows < MOST_REPORTS) {
                days[rows] = day;
                sources[rows] = source;
                weights[rows] = weight;
                rows++;
            }
        }

        int sumOn(int today) {
            int sum = 0;
            for (int row = 0; row < rows && row < MOST_REPORTS; row++) {
                if (days[row] > today - REPORT_DAYS) {
                    sum += weights[row];
                }
            }
            return sum;
        }

        int dayToSeeBy(int today) {
            for (int row = 0; row < rows && row < MOST_REPORTS; row++) {
                if (days[row] > today - REPORT_DAYS && days[row] > seen) {
                    return days[row] + daysToSee(sumOn(today));
                }
            }
            return NONE;
        }

        private static int daysToSee(int risk) {
            if (risk >= 12) {
                return 1;
            }
            return risk >= 6 ? 5 : 20;
        }
    }

    /** The visits of a child's family, over all its stays. */
    private static final class Family {
        private static final int IN_A_ROW = 3;

        int gap;
        boolean hasCome;
        int kept;
        int missed;
        int keptInRow;
        int missedInRow;
        boolean isWatched;

        void beginDay(int daysThere) {
            if (gap > 0 && daysThere % gap == 0) {
                countVisit();
                hasCome = false;
            }
        }

        private void countVisit() {
            if (hasCome) {
                kept++;
                keptInRow++;
                missedInRow = 0;
            } else {
                missed++;
                missedInRow++;
                keptInRow = 0;
            }
            if (missedInRow >= IN_A_ROW) {
                isWatched = true;
            } else if (keptInRow >= IN_A_ROW) {
                isWatched = false;
            }
        }
    }

    /**
     * The search for the best way to place several children at once; its rows are made once and used again.
     * What makes a way better is one number, a sum over its children and homes, each step of which outweighs all
     * that is below it: children placed, fewer unlike homes, worths, lower homes for lower children. So the best
     * way for a set of children can be built from the best ways for smaller sets, one home after the other.
     */
    private static final class Plan {
        private static final int BARRED = -1000000;
        private static final long IMPOSSIBLE = -1;
        private static final int SETS = 1 << MOST_AT_ONCE;
        private static final int[] RANKS = {14641, 1331, 121, 11, 1};
        private static final long WORTH = 1L << 18;
        private static final long UNLIKE = 1L << 29;
        private static final long PLACED = 1L << 33;

        final Child[] kids;
        final int[] chosen;
        final int[][] worths;
        final int[] free;
        final int[][] guests;
        final long[] gains;
        final long[] values;
        int count;
        int sets;

        Plan() {
            kids = new Child[MOST_AT_ONCE];
            chosen = new int[MOST_AT_ONCE];
            worths = new int[MOST_AT_ONCE][MOST_HOMES];
            free = new int[MOST_HOMES];
            guests = new int[MOST_HOMES][SETS];
            gains = new long[SETS];
            values = new long[SETS];
        }

        void clear() {
            count = 0;
            sets = 1;
        }

        void setBeds(int home, int freeBeds) {
            if (home >= 0 && home < MOST_HOMES) {
                free[home] = freeBeds;
            }
        }

        int addChild(Child c) {
            int row = count;
            if (row >= MOST_AT_ONCE) {
                return NONE;
            }
            kids[row] = c;
            for (int home = 0; home < MOST_HOMES; home++) {
                worths[row][home] = BARRED;
            }
            count = row + 1;
            sets = 2 * sets;
            return row;
        }

        void allow(int row, int home, int worth) {
            if (row >= 0 && row < MOST_AT_ONCE && home >= 0 && home < MOST_HOMES) {
                worths[row][home] = worth;
            }
        }

        Child childAtRow(int row) {
            return row >= 0 && row < count && row < MOST_AT_ONCE ? kids[row] : null;
        }

        int homeAtRow(int row) {
            return row >= 0 && row < count && row < MOST_AT_ONCE ? chosen[row] : NONE;
        }

        int search() {
            values[0] = 0;
            for (int set = 1; set < SETS; set++) {
                values[set] = IMPOSSIBLE;
            }
            for (int home = 0; home < MOST_HOMES; home++) {
                weighSets(home);
                addHome(home);
            }
            int best = 0;
            for (int set = 1; set < SETS; set++) {
                if (values[set] > values[best]) {
                    best = set;
                }
            }
            choose(best);
            return Integer.bitCount(best);
        }

        private void weighSets(int home) {
            for (int set = 1; set < sets && set < SETS; set++) {
                gains[set] = Integer.bitCount(set) > free[home] ? IMPOSSIBLE : gainOf(set, home);
            }
        }

        private long gainOf(int set, int home) {
            long gain = -UNLIKE;
            for (int row = 0; row < MOST_AT_ONCE && row < RANKS.length; row++) {
                if ((set >> row & 1) == 0) {
                    continue;
                }
                if (worths[row][home] == BARRED) {
                    return IMPOSSIBLE;
                }
                gain += PLACED + WORTH * worths[row][home] + (MOST_HOMES - home) * RANKS[row];
            }
            return gain;
        }

        /** From the largest set down, so that the values of smaller ones are still those without this home. */
        private void addHome(int home) {
            for (int all = Math.min(sets, SETS) - 1; all > 0; all--) {
                int here = 0;
                long most = values[all];
                for (int set = 1; set <= all; set++) {
                    if ((set & all) != set || gains[set] < 0 || values[all & ~set] < 0) {
                        continue;
                    }
                    long value = values[all & ~set] + gains[set];
                    if (value > most) {
                        most = value;
                        here = set;
                    }
                }
                values[all] = most;
                guests[home][all] = here;
            }
        }

        private void choose(int best) {
            int left = best;
            for (int row = 0; row < MOST_AT_ONCE; row++) {
                chosen[row] = NONE;
            }
            for (int home = MOST_HOMES - 1; home >= 0; home--) {
                int here = left >= 0 && left < SETS ? guests[home][left] : 0;
                for (int row = 0; row < MOST_AT_ONCE; row++) {
                    if ((here >> row & 1) != 0) {
                        chosen[row] = home;
                    }
                }
                left &= ~here;
            }
        }
    }
}
