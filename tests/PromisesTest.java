/** Each promise of the document by hand: ordinary inputs, the edges that it names, and wrong inputs. */
public final class PromisesTest {
    private static final int NONE = FosterHouse.NONE;
    private static final int BLACK = FosterHouse.BLACK;
    private static final int CARE = FosterHouse.CARE;
    private static final int HOME = FosterHouse.HOME;
    private static final int STAY = FosterHouse.STAY;
    private static final int YEAR = 365;

    private static final Class<?> INDEX = IndexOutOfBoundsException.class;
    private static final Class<?> ARGUMENT = IllegalArgumentException.class;
    private static final Class<?> STATE = IllegalStateException.class;

    private static int checks = 0;
    private static int wrong = 0;

    private interface Call {
        void run();
    }

    private static void is(String what, long got, long due) {
        checks++;
        if (got != due) {
            wrong++;
            System.out.println(what + " answered " + got + ", due is " + due);
        }
    }

    private static void is(String what, boolean got, boolean due) {
        is(what, got ? 1 : 0, due ? 1 : 0);
    }

    private static void fails(String what, Class<?> due, Call call) {
        checks++;
        Class<?> got = null;
        try {
            call.run();
        } catch (RuntimeException e) {
            got = e.getClass();
        }
        if (got != due) {
            wrong++;
            System.out.println(what + " threw " + got + ", due is " + due);
        }
    }

    /**
     * A call that throws, with all that can be asked told the same ahead of it and behind it. Asking takes more
     * than the 512 calls of the document; this class answers later calls as it does the first ones.
     */
    private static void failsAndChangesNothing(String what, Class<?> due, FosterHouse x, Call call) {
        String ahead = all(x);
        fails(what, due, call);
        checks++;
        if (!all(x).equals(ahead)) {
            wrong++;
            System.out.println(what + " threw and changed something");
        }
    }

    private static String all(FosterHouse x) {
        StringBuilder s = new StringBuilder();
        for (int stay = 0; answers(x, stay); stay++) {
            for (int what = 0; what < 5; what++) s.append(x.stay(stay, what)).append(' ');
            s.append(x.wasAllowed(stay)).append('\n');
        }
        for (int worker = 0; worker < 5; worker++) s.append(x.load(worker)).append(' ');
        for (int home = 0; isHome(x, home); home++) s.append("home ").append(x.owed(home)).append('\n');
        for (int child = 0; isChild(x, child); child++) {
            for (int what = 0; what < 7; what++) s.append(x.childIs(child, what)).append(' ');
            s.append(x.risk(child)).append(' ').append(x.seeBy(child)).append(' ').append(x.best(child));
            for (int day = 0; day < 40; day++) s.append(' ').append(x.counts(child, day));
            for (int home = 0; isHome(x, home); home++) {
                s.append(' ').append(x.why(child, home)).append(' ').append(x.worth(child, home));
            }
            s.append('\n');
        }
        return s.toString();
    }

    private static boolean answers(FosterHouse x, int stay) {
        try { x.stay(stay, 0); return true; } catch (IndexOutOfBoundsException e) { return false; }
    }

    private static boolean isHome(FosterHouse x, int home) {
        try { x.owed(home); return true; } catch (IndexOutOfBoundsException e) { return false; }
    }

    private static boolean isChild(FosterHouse x, int child) {
        try { x.risk(child); return true; } catch (IndexOutOfBoundsException e) { return false; }
    }

    /** A home with so many beds, approved for all, trained for all, up to day 20000. */
    private static int openHome(FosterHouse x, int place, int tongue, int beds) {
        int home = x.home(place, tongue, beds);
        x.approve(home, 0, 17, 20000);
        x.train(home, 15, 20000);
        return home;
    }

    /** A child under CARE from now on, for a long time. */
    private static int childInCare(FosterHouse x, int days, int needs, int family, int place, int tongue) {
        int child = x.child(days, needs, family, place, tongue);
        x.order(child, CARE, day(x), 7000);
        return child;
    }

    /** The day of now is told by pass alone, so the tests that need it keep to day 0 or tell it. */
    private static int dayOfNow = 0;

    private static int day(FosterHouse x) {
        return dayOfNow;
    }

    private static FosterHouse fresh() {
        dayOfNow = 0;
        return new FosterHouse();
    }

    private static void pass(FosterHouse x, int days) {
        int left = days;
        while (left > 0) {
            int step = Math.min(left, 400);
            dayOfNow += step;
            is("pass(" + step + ")", x.pass(step), dayOfNow);
            left -= step;
        }
    }

    public static void main(String[] args) {
        newObject();
        child();
        home();
        approve();
        train();
        rest();
        report();
        see();
        risk();
        seeBy();
        order();
        counts();
        wish();
        why();
        worth();
        best();
        place();
        placeAll();
        placeAllChoices();
        visits();
        came();
        watched();
        pay();
        owed();
        handOver();
        load();
        passDays();
        childIs();
        stay();
        wasAllowed();
        blacken();
        file();
        System.out.println(checks + " checks, " + wrong + " wrong");
        if (wrong != 0) System.exit(1);
    }

    private static void newObject() {
        FosterHouse x = fresh();
        is("NONE", NONE, -1);
        is("BLACK", BLACK, -2);
        is("CARE", CARE, 0);
        is("HOME", HOME, 1);
        is("STAY", STAY, 2);
        fails("new: risk(0)", INDEX, () -> x.risk(0));
        fails("new: owed(0)", INDEX, () -> x.owed(0));
        fails("new: stay(0, 0)", INDEX, () -> x.stay(0, 0));
        for (int worker = 0; worker < 5; worker++) is("new: load", x.load(worker), 0);
        for (int family = 0; family < 8; family++) is("new: placeAll", x.placeAll(family), 0);
        is("new: first child", x.child(0, 0, 0, 0, 0), 0);
        is("new: first home", x.home(0, 0, 1), 0);
        is("new: first order", x.order(0, CARE, 0, 1), 0);
        is("new: first day behind 0", x.pass(1), 1);
        FosterHouse y = fresh();
        fails("one object does not know the other's children", INDEX, () -> y.risk(0));
    }

    private static void child() {
        FosterHouse x = fresh();
        int[][] bad = {{-1, 0, 0, 0, 0}, {7001, 0, 0, 0, 0}, {0, -1, 0, 0, 0}, {0, 16, 0, 0, 0}, {0, 0, -1, 0, 0},
            {0, 0, 8, 0, 0}, {0, 0, 0, -1, 0}, {0, 0, 0, 51, 0}, {0, 0, 0, 0, -1}, {0, 0, 0, 0, 4},
            {Integer.MIN_VALUE, 0, 0, 0, 0}, {Integer.MAX_VALUE, 0, 0, 0, 0}};
        for (int[] b : bad) {
            failsAndChangesNothing("child of bad arguments", ARGUMENT, x, () -> x.child(b[0], b[1], b[2], b[3], b[4]));
        }
        is("oldest child", x.child(7000, 15, 7, 50, 3), 0);
        is("its age", x.childIs(0, 1), 19);
        is("youngest child", x.child(0, 0, 0, 0, 0), 1);
        is("its age", x.childIs(1, 1), 0);
        pass(x, 100);
        for (int number = 2; number < 16; number++) is("child", x.child(10 * YEAR - 1, 0, 0, 0, 0), number);
        is("a child told later is so old then", x.childIs(2, 1), 9);
        pass(x, 1);
        is("and a day older the day behind", x.childIs(2, 1), 10);
        failsAndChangesNothing("a 17th child", STATE, x, () -> x.child(0, 0, 0, 0, 0));
        fails("a 17th child of bad arguments", ARGUMENT, () -> x.child(0, 16, 0, 0, 0));
    }

    private static void home() {
        FosterHouse x = fresh();
        int[][] bad = {{-1, 0, 1}, {51, 0, 1}, {0, -1, 1}, {0, 4, 1}, {0, 0, 0}, {0, 0, 6}, {0, 0, -1}};
        for (int[] b : bad) failsAndChangesNothing("home of bad arguments", ARGUMENT, x, () -> x.home(b[0], b[1], b[2]));
        is("first home", x.home(0, 0, 1), 0);
        is("second home", x.home(50, 3, 5), 1);
        childInCare(x, 3000, 0, 0, 0, 0);
        is("a new home is not approved", x.why(0, 0), 2);
        childInCare(x, 3000, 1, 0, 0, 0);
        x.approve(1, 0, 17, 100);
        is("a new home is not trained", x.why(1, 1), 4);
        is("a new home does not rest", x.why(0, 1), 0);
        for (int number = 2; number < 10; number++) is("home", x.home(0, 0, 1), number);
        failsAndChangesNothing("an 11th home", STATE, x, () -> x.home(0, 0, 1));
        fails("an 11th home of bad arguments", ARGUMENT, () -> x.home(0, 0, 0));
    }

    private static void approve() {
        FosterHouse x = fresh();
        int home = x.home(0, 0, 5);
        int child = childInCare(x, 5 * YEAR, 0, 0, 0, 0);
        for (int no : new int[] {-1, 1, 10, Integer.MAX_VALUE, Integer.MIN_VALUE}) {
            failsAndChangesNothing("approve without home", INDEX, x, () -> x.approve(no, 0, 17, 10));
            fails("approve without home, badly", INDEX, () -> x.approve(no, -1, 17, 10));
        }
        int[][] bad = {{-1, 17, 9}, {18, 18, 9}, {0, 18, 9}, {5, 4, 9}, {0, -1, 9}, {0, 17, -1}, {0, 17, 20001}};
        for (int[] b : bad) {
            failsAndChangesNothing("approve of bad arguments", ARGUMENT, x, () -> x.approve(home, b[0], b[1], b[2]));
        }
        x.approve(home, 17, 17, 20000);
        is("approved for others", x.why(child, home), 3);
        x.approve(home, 0, 0, 20000);
        is("approved for younger ones", x.why(child, home), 3);
        x.approve(home, 5, 5, 2);
        is("approved for just its age", x.why(child, home), 0);
        pass(x, 2);
        is("the last day with it", x.why(child, home), 0);
        pass(x, 1);
        is("no longer approved", x.why(child, home), 2);
        x.approve(home, 0, 17, 3);
        is("approved for just today", x.why(child, home), 0);
        x.approve(home, 0, 17, 2);
        is("approved up to a day that is over", x.why(child, home), 2);
        x.approve(home, 0, 17, 100);
        pass(x, 50);
        x.approve(home, 0, 17, 0);
        is("approval taken away", x.why(child, home), 2);
        pass(x, 1);
        is("and it stays away", x.why(child, home), 2);
    }

    private static void train() {
        FosterHouse x = fresh();
        int home = x.home(0, 0, 5);
        x.approve(home, 0, 17, 20000);
        int child = childInCare(x, 3000, 5, 0, 0, 0);
        int plain = childInCare(x, 3000, 0, 0, 0, 0);
        for (int no : new int[] {-1, 1, 10}) {
            failsAndChangesNothing("train without home", INDEX, x, () -> x.train(no, 0, 10));
            fails("train without home, badly", INDEX, () -> x.train(no, 16, 10));
        }
        int[][] bad = {{-1, 9}, {16, 9}, {0, -1}, {0, 20001}};
        for (int[] b : bad) {
            failsAndChangesNothing("train of bad arguments", ARGUMENT, x, () -> x.train(home, b[0], b[1]));
        }
        is("not trained", x.why(child, home), 4);
        is("no needs, no training", x.why(plain, home), 0);
        x.train(home, 4, 10);
        is("trained for one of two needs", x.why(child, home), 4);
        x.train(home, 1, 10);
        is("one told in place of the other", x.why(child, home), 4);
        x.train(home, 7, 3);
        is("trained for more", x.why(child, home), 0);
        pass(x, 3);
        is("trained, the last day", x.why(child, home), 0);
        pass(x, 1);
        is("no longer trained", x.why(child, home), 4);
        is("no needs, no training either", x.why(plain, home), 0);
        x.train(home, 15, 3);
        is("trained up to a day that is over", x.why(child, home), 4);
        x.train(home, 5, 20000);
        is("trained again", x.why(child, home), 0);
    }

    private static void rest() {
        FosterHouse x = fresh();
        int home = openHome(x, 0, 0, 5);
        int child = childInCare(x, 3000, 0, 0, 0, 0);
        pass(x, 2);
        for (int no : new int[] {-1, 1, 10}) {
            failsAndChangesNothing("rest without home", INDEX, x, () -> x.rest(no, 5, 10));
            fails("rest without home, badly", INDEX, () -> x.rest(no, 5, 4));
        }
        int[][] bad = {{1, 9}, {-1, 9}, {20001, 20001}, {5, 4}, {5, 20001}};
        for (int[] b : bad) {
            failsAndChangesNothing("rest of bad arguments", ARGUMENT, x, () -> x.rest(home, b[0], b[1]));
        }
        x.rest(home, 4, 5);
        is("not yet", x.why(child, home), 0);
        pass(x, 1);
        is("not yet", x.why(child, home), 0);
        pass(x, 1);
        is("rests", x.why(child, home), 5);
        pass(x, 1);
        is("rests, the last day", x.why(child, home), 5);
        pass(x, 1);
        is("rests no more", x.why(child, home), 0);
        x.rest(home, 6, 6);
        is("rests just today", x.why(child, home), 5);
        x.rest(home, 8, 20000);
        is("told in place of it, for all of the day", x.why(child, home), 0);
        pass(x, 2);
        is("rests", x.why(child, home), 5);
        x.rest(home, 10, 12);
        is("the new one alone counts", x.why(child, home), 0);
        pass(x, 4);
        is("its last day", x.why(child, home), 5);
        pass(x, 1);
        is("the old one does not come back", x.why(child, home), 0);
        x.rest(home, 20000, 20000);
        is("far away", x.why(child, home), 0);
    }

    private static void report() {
        FosterHouse x = fresh();
        x.child(3000, 0, 0, 0, 0);
        x.child(3000, 0, 0, 0, 0);
        for (int no : new int[] {-1, 2, 16}) {
            failsAndChangesNothing("report without child", INDEX, x, () -> x.report(no, 0, 1));
            fails("report without child, badly", INDEX, () -> x.report(no, 10, 1));
        }
        int[][] bad = {{-1, 1}, {10, 1}, {0, 0}, {0, 10}, {0, -1}};
        for (int[] b : bad) {
            failsAndChangesNothing("report of bad arguments", ARGUMENT, x, () -> x.report(0, b[0], b[1]));
        }
        is("a report", x.report(0, 0, 9), 9);
        is("of another source", x.report(0, 9, 1), 10);
        is("a lesser one", x.report(0, 0, 3), 10);
        is("a greater one", x.report(0, 9, 4), 13);
        is("a lesser one again", x.report(0, 9, 2), 13);
        is("the other child", x.risk(1), 0);
        is("the other child", x.report(1, 0, 2), 2);
        pass(x, 1);
        is("the same source on another day", x.report(0, 0, 3), 16);
        for (int told = 6; told < 29; told++) x.report(0, 0, 1);
        pass(x, 100);
        is("the 30th", x.report(0, 0, 5), 5);
        failsAndChangesNothing("the 31st", STATE, x, () -> x.report(0, 1, 1));
        fails("the 31st, badly", ARGUMENT, () -> x.report(0, 1, 0));
        is("the other child may", x.report(1, 0, 2), 2);
    }

    private static void see() {
        FosterHouse x = fresh();
        x.child(3000, 0, 0, 0, 0);
        for (int no : new int[] {-1, 1, 16}) failsAndChangesNothing("see without child", INDEX, x, () -> x.see(no));
        is("nothing to see for", x.see(0), false);
        x.report(0, 0, 3);
        is("seen already today", x.seeBy(0), NONE);
        pass(x, 1);
        x.report(0, 0, 3);
        pass(x, 5);
        is("seen on the last day", x.see(0), false);
        is("seen", x.seeBy(0), NONE);
        pass(x, 1);
        x.report(0, 0, 3);
        is("risk of all, not of the new one alone", x.seeBy(0), 12);
        pass(x, 6);
        is("a day too late", x.see(0), true);
        is("then seen", x.see(0), false);
    }

    private static void risk() {
        FosterHouse x = fresh();
        x.child(3000, 0, 0, 0, 0);
        for (int no : new int[] {-1, 1, 16}) fails("risk without child", INDEX, () -> x.risk(no));
        is("none", x.risk(0), 0);
        x.report(0, 0, 3);
        pass(x, 1);
        x.report(0, 0, 4);
        is("both", x.risk(0), 7);
        pass(x, 28);
        is("the 30th day with the first", x.risk(0), 7);
        pass(x, 1);
        is("the 31st", x.risk(0), 4);
        pass(x, 1);
        is("and none", x.risk(0), 0);
        x.see(0);
        x.report(0, 1, 9);
        x.see(0);
        is("to be seen does not take the risk away", x.risk(0), 9);
    }

    private static void seeBy() {
        int[][] risks = {{1, 20}, {5, 20}, {6, 5}, {11, 5}, {12, 1}, {18, 1}};
        for (int[] r : risks) {
            FosterHouse x = fresh();
            x.child(3000, 0, 0, 0, 0);
            pass(x, 3);
            x.report(0, 0, Math.min(r[0], 9));
            if (r[0] > 9) x.report(0, 1, r[0] - 9);
            is("seeBy by risk " + r[0], x.seeBy(0), 3 + r[1]);
        }
        FosterHouse x = fresh();
        x.child(3000, 0, 0, 0, 0);
        for (int no : new int[] {-1, 1, 16}) fails("seeBy without child", INDEX, () -> x.seeBy(no));
        is("need not", x.seeBy(0), NONE);
        x.report(0, 0, 1);
        pass(x, 10);
        x.report(0, 0, 1);
        is("counted from the first", x.seeBy(0), 20);
        pass(x, 19);
        is("the first is still one of the latest 30 days", x.seeBy(0), 20);
        pass(x, 1);
        is("then the second counts", x.seeBy(0), 30);
        pass(x, 10);
        is("then none", x.seeBy(0), NONE);
        is("and none is overdue", x.see(0), false);
    }

    private static void order() {
        FosterHouse x = fresh();
        x.child(3000, 0, 0, 0, 0);
        x.child(3000, 0, 0, 0, 0);
        pass(x, 4);
        for (int no : new int[] {-1, 2, 16}) {
            failsAndChangesNothing("order without child", INDEX, x, () -> x.order(no, CARE, 4, 1));
            fails("order without child, badly", INDEX, () -> x.order(no, 3, 4, 1));
        }
        int[][] bad = {{-1, 4, 1}, {3, 4, 1}, {0, 3, 1}, {0, -1, 1}, {0, 20001, 1}, {0, 4, 0}, {0, 4, 7001}, {0, 4, -1}};
        for (int[] b : bad) {
            failsAndChangesNothing("order of bad arguments", ARGUMENT, x, () -> x.order(0, b[0], b[1], b[2]));
        }
        is("from today", x.order(0, CARE, 4, 1), 0);
        is("of the other child", x.order(1, STAY, 20000, 7000), 1);
        is("the last day of it", x.counts(1, 26999), 1);
        is("no longer", x.counts(1, 27000), NONE);
        for (int number = 2; number < 60; number++) is("order", x.order(0, HOME, 5, 1), number);
        failsAndChangesNothing("the 61st", STATE, x, () -> x.order(1, CARE, 4, 1));
        fails("the 61st, badly", ARGUMENT, () -> x.order(1, CARE, 3, 1));
    }

    private static void counts() {
        FosterHouse x = fresh();
        x.child(3000, 0, 0, 0, 0);
        x.child(3000, 0, 0, 0, 0);
        for (int no : new int[] {-1, 2, 16}) {
            fails("counts without child", INDEX, () -> x.counts(no, 0));
            fails("counts without child, badly", INDEX, () -> x.counts(no, -1));
        }
        fails("counts of a day below 0", ARGUMENT, () -> x.counts(0, -1));
        fails("counts of a day above 30000", ARGUMENT, () -> x.counts(0, 30001));
        is("none", x.counts(0, 0), NONE);
        is("none, far away", x.counts(0, 30000), NONE);
        x.order(0, CARE, 2, 10);
        x.order(0, HOME, 4, 2);
        x.order(0, STAY, 5, 20);
        x.order(1, CARE, 0, 100);
        int[] due = {NONE, NONE, 0, 0, 1, 2, 2, 2, 2, 2, 2, 2, 2};
        for (int day = 0; day < due.length; day++) is("counts on " + day, x.counts(0, day), due[day]);
        is("the last day", x.counts(0, 24), 2);
        is("behind it", x.counts(0, 25), NONE);
        is("of the other", x.counts(1, 5), 3);
        pass(x, 6);
        x.order(0, CARE, 6, 3);
        is("days that are over stay", x.counts(0, 5), 2);
        is("the last one told", x.counts(0, 6), 4);
        is("the last one told", x.counts(0, 8), 4);
        is("then the one ahead again", x.counts(0, 9), 2);
    }

    private static void wish() {
        FosterHouse x = fresh();
        int home = openHome(x, 0, 0, 5);
        int other = openHome(x, 0, 0, 5);
        int young = childInCare(x, 12 * YEAR - 1, 0, 0, 0, 1);
        int old = childInCare(x, 12 * YEAR, 0, 1, 0, 1);
        for (int no : new int[] {-1, 2, 16}) {
            failsAndChangesNothing("wish without child", INDEX, x, () -> x.wish(no, home, true));
            failsAndChangesNothing("wish without home", INDEX, x, () -> x.wish(young, no, false));
        }
        is("no wish", x.worth(young, home), 0);
        x.wish(young, home, false);
        is("worth of a wish not to be there", x.worth(young, home), -8);
        is("heard, but it does not bar", x.why(young, home), 0);
        is("about that home alone", x.worth(young, other), 0);
        is("of that child alone", x.worth(old, home), 0);
        x.wish(old, home, false);
        is("at 12 it bars", x.why(old, home), 7);
        is("its worth", x.worth(old, home), -8);
        is("not the other home", x.why(old, other), 0);
        x.wish(old, home, true);
        is("the latest one counts", x.why(old, home), 0);
        is("its worth", x.worth(old, home), 8);
        pass(x, 1);
        is("a wish from below 12 does not bar later", x.why(young, home), 0);
        is("but it is kept", x.worth(young, home), -8);
        x.wish(young, home, false);
        is("told again at 12 it bars", x.why(young, home), 7);
        pass(x, 400);
        is("and is kept", x.why(young, home), 7);
    }

    private static void why() {
        FosterHouse x = fresh();
        int home = x.home(0, 0, 1);
        int child = x.child(13 * YEAR, 2, 0, 0, 0);
        int guest = childInCare(x, 10 * YEAR, 0, 0, 0, 0);
        for (int no : new int[] {-1, 2, 16}) {
            fails("why without child", INDEX, () -> x.why(no, home));
            fails("why without home", INDEX, () -> x.why(child, no));
        }
        x.approve(home, 0, 17, 0);
        x.place(guest, home);
        x.wish(child, home, false);
        x.rest(home, 0, 10);
        x.approve(home, 0, 12, 2);
        pass(x, 3);
        is("1 goes first", x.why(child, home), 1);
        x.order(child, STAY, 3, 100);
        is("STAY is no CARE", x.why(child, home), 1);
        x.order(child, HOME, 3, 100);
        is("HOME is no CARE", x.why(child, home), 1);
        x.order(child, CARE, 4, 100);
        is("CARE of tomorrow is none", x.why(child, home), 1);
        x.order(child, CARE, 3, 100);
        is("2 goes next", x.why(child, home), 2);
        x.approve(home, 0, 12, 100);
        is("3 goes next", x.why(child, home), 3);
        x.approve(home, 14, 17, 100);
        is("3 too", x.why(child, home), 3);
        x.approve(home, 13, 13, 100);
        is("4 goes next", x.why(child, home), 4);
        x.train(home, 2, 100);
        is("5 goes next", x.why(child, home), 5);
        x.rest(home, 50, 50);
        is("6 goes next", x.why(child, home), 6);
        x.order(guest, HOME, 4, 1);
        pass(x, 1);
        is("7 goes last", x.why(child, home), 7);
        x.wish(child, home, true);
        is("it may", x.why(child, home), 0);
        x.place(child, home);
        is("its own bed is not counted as taken", x.why(child, home), 0);
        x.order(guest, CARE, 4, 10);
        is("for the others it is", x.why(guest, home), 3);
        x.approve(home, 0, 17, 100);
        is("for the others it is", x.why(guest, home), 6);
    }

    private static void worth() {
        FosterHouse x = fresh();
        int home = openHome(x, 20, 1, 5);
        int child = childInCare(x, 3000, 0, 3, 20, 0);
        int brother = childInCare(x, 3000, 0, 3, 29, 1);
        int sister = childInCare(x, 3000, 0, 3, 10, 2);
        int stranger = childInCare(x, 3000, 0, 4, 0, 1);
        for (int no : new int[] {-1, 4, 16}) fails("worth without child", INDEX, () -> x.worth(no, home));
        for (int no : new int[] {-1, 1, 10}) fails("worth without home", INDEX, () -> x.worth(child, no));
        is("nothing", x.worth(child, home), 0);
        is("tongue, 9 away", x.worth(brother, home), 6 - 1);
        is("10 away", x.worth(sister, home), -2);
        is("tongue, 20 away", x.worth(stranger, home), 6 - 4);
        x.place(brother, home);
        is("a brother is there", x.worth(child, home), 10);
        is("not of oneself", x.worth(brother, home), 5);
        is("not of a stranger", x.worth(stranger, home), 2);
        x.place(sister, home);
        x.place(stranger, home);
        is("both are there", x.worth(child, home), 20);
        is("a sister is there", x.worth(brother, home), 15);
        x.wish(child, home, true);
        is("wished", x.worth(child, home), 28);
        x.wish(child, home, false);
        is("wished not to", x.worth(child, home), 12);
        x.order(sister, HOME, 1, 1);
        pass(x, 1);
        is("a sister went back", x.worth(child, home), 2);
    }

    private static void best() {
        FosterHouse x = fresh();
        int child = childInCare(x, 13 * YEAR, 0, 3, 20, 0);
        for (int no : new int[] {-1, 1, 16}) fails("best without child", INDEX, () -> x.best(no));
        is("no home", x.best(child), NONE);
        int closed = x.home(20, 0, 5);
        is("none in which it may be", x.best(child), NONE);
        int far = openHome(x, 50, 1, 1);
        is("one of worth below 0", x.worth(child, far), -6);
        is("is better than none", x.best(child), far);
        int near = openHome(x, 40, 1, 1);
        is("the greater worth", x.best(child), near);
        int nearToo = openHome(x, 0, 1, 1);
        is("of several the lowest", x.best(child), near);
        x.wish(child, near, false);
        is("not where it may not be", x.best(child), nearToo);
        x.wish(child, far, true);
        is("by its wish", x.best(child), far);
        x.place(child, far);
        is("the home where it is, is one of them", x.best(child), far);
        x.approve(closed, 0, 17, 100);
        x.wish(child, closed, true);
        is("and another one may be better", x.best(child), closed);
        x.order(child, STAY, 0, 5);
        is("none without CARE", x.best(child), NONE);
    }

    private static void place() {
        FosterHouse x = fresh();
        int home = openHome(x, 0, 0, 1);
        int other = openHome(x, 0, 0, 2);
        int child = childInCare(x, 3000, 0, 0, 0, 0);
        int second = childInCare(x, 3000, 0, 0, 0, 0);
        for (int no : new int[] {-1, 2, 16}) {
            failsAndChangesNothing("place without child", INDEX, x, () -> x.place(no, home));
            failsAndChangesNothing("place without home", INDEX, x, () -> x.place(child, no));
        }
        is("first stay", x.place(child, home), 0);
        is("it is there", x.childIs(child, 0), home);
        failsAndChangesNothing("it is there already", STATE, x, () -> x.place(child, home));
        failsAndChangesNothing("no bed is free", STATE, x, () -> x.place(second, home));
        pass(x, 3);
        is("elsewhere", x.place(child, other), 1);
        is("the stay ahead ended today", x.stay(0, 3), 3);
        is("the new one began today", x.stay(1, 2), 3);
        is("and goes on", x.stay(1, 3), NONE);
        is("the bed is free", x.place(second, home), 2);
        is("a stay of no day", x.place(second, other), 3);
        is("began", x.stay(2, 2), 3);
        is("and ended", x.stay(2, 3), 3);
        is("no due of it", x.owed(home), 3 * 18);
        for (int number = 4; number < 100; number++) {
            is("stay", x.place(second, x.childIs(second, 0) == other ? home : other), number);
        }
        failsAndChangesNothing("the 101st stay", STATE, x, () -> x.place(second, home == x.childIs(second, 0) ? other : home));
        fails("the 101st stay of no child", INDEX, () -> x.place(2, home));
    }

    private static void placeAll() {
        FosterHouse x = fresh();
        int home = openHome(x, 0, 0, 2);
        int other = openHome(x, 0, 0, 1);
        fails("placeAll of no family", ARGUMENT, () -> x.placeAll(-1));
        fails("placeAll of no family", ARGUMENT, () -> x.placeAll(8));
        is("nobody", x.placeAll(7), 0);
        int[] kids = new int[4];
        for (int k = 0; k < 4; k++) kids[k] = childInCare(x, 3000, 0, 7, 0, 0);
        int noCare = x.child(3000, 0, 7, 0, 0);
        int stranger = childInCare(x, 3000, 0, 6, 0, 0);
        is("three beds for four", x.placeAll(7), 3);
        is("lowest child, lowest home", x.childIs(kids[0], 0), home);
        is("next child", x.childIs(kids[1], 0), home);
        is("next child", x.childIs(kids[2], 0), other);
        is("none is above all", x.childIs(kids[3], 0), NONE);
        is("no CARE", x.childIs(noCare, 0), NONE);
        is("no brother", x.childIs(stranger, 0), NONE);
        for (int k = 0; k < 3; k++) is("stays go by children", x.stay(k, 0), kids[k]);
        is("no bed is left", x.placeAll(7), 0);
        x.order(kids[0], HOME, 1, 1);
        pass(x, 1);
        is("who is there stays, the one without home is placed", x.placeAll(7), 1);
        is("there", x.childIs(kids[3], 0), home);
        is("there as it was", x.childIs(kids[2], 0), other);

        FosterHouse y = fresh();
        for (int k = 0; k < 6; k++) childInCare(y, 3000, 0, 1, 0, 0);
        failsAndChangesNothing("six at once, and no home", STATE, y, () -> y.placeAll(1));
        int wide = openHome(y, 0, 0, 5);
        int one = openHome(y, 0, 0, 1);
        failsAndChangesNothing("six at once", STATE, y, () -> y.placeAll(1));
        y.place(0, one);
        is("five at once", y.placeAll(1), 5);
        is("together", y.childIs(5, 0), wide);

        FosterHouse z = fresh();
        int a = openHome(z, 0, 0, 2);
        int b = openHome(z, 0, 0, 1);
        int mover = childInCare(z, 3000, 0, 0, 0, 0);
        childInCare(z, 3000, 0, 1, 0, 0);
        childInCare(z, 3000, 0, 1, 0, 0);
        for (int s = 0; s < 99; s++) z.place(mover, s % 2 == 0 ? b : a);
        failsAndChangesNothing("101 stays", STATE, z, () -> z.placeAll(1));
        z.order(2, STAY, 0, 1);
        is("100 stays", z.placeAll(1), 1);
        is("none is wanted", z.placeAll(5), 0);
    }

    private static void placeAllChoices() {
        FosterHouse x = fresh();
        int near = openHome(x, 0, 0, 1);
        int wide = openHome(x, 50, 1, 2);
        int a = childInCare(x, 3000, 0, 0, 0, 0);
        int b = childInCare(x, 3000, 0, 0, 0, 0);
        is("two", x.placeAll(0), 2);
        is("together, though worth less", x.childIs(a, 0), wide);
        is("together, though worth less", x.childIs(b, 0), wide);

        FosterHouse y = fresh();
        int first = openHome(y, 0, 0, 1);
        int second = openHome(y, 0, 0, 5);
        int trained = childInCare(y, 13 * YEAR, 1, 0, 0, 0);
        int plain = childInCare(y, 13 * YEAR, 0, 0, 0, 0);
        y.train(second, 0, 100);
        y.wish(plain, second, false);
        is("as many as can be is first", y.placeAll(0), 1);
        is("the lowest child goes", y.childIs(trained, 0), first);
        is("the other not", y.childIs(plain, 0), NONE);

        FosterHouse z = fresh();
        openHome(z, 0, 0, 1);
        openHome(z, 0, 1, 1);
        int left = childInCare(z, 3000, 0, 0, 0, 1);
        int right = childInCare(z, 3000, 0, 0, 0, 0);
        is("both", z.placeAll(0), 2);
        is("by worth", z.childIs(left, 0), 1);
        is("by worth", z.childIs(right, 0), 0);

        FosterHouse w = fresh();
        openHome(w, 0, 3, 2);
        openHome(w, 0, 3, 3);
        int there = childInCare(w, 3000, 0, 0, 0, 0);
        w.place(there, 1);
        int c = childInCare(w, 3000, 0, 0, 0, 0);
        int d = childInCare(w, 3000, 0, 0, 0, 0);
        is("two", w.placeAll(0), 2);
        is("to the sister who is there", w.childIs(c, 0), 1);
        is("to the sister who is there", w.childIs(d, 0), 1);

        // Those placed at the same time do not raise the worth: 6 + 6 for two homes would lose to 10 + 10 else.
        FosterHouse v = fresh();
        openHome(v, 0, 0, 2);
        openHome(v, 0, 1, 2);
        openHome(v, 0, 0, 1);
        int e = childInCare(v, 3000, 0, 0, 0, 1);
        int f = childInCare(v, 3000, 0, 0, 0, 0);
        int g = childInCare(v, 3000, 0, 0, 0, 0);
        is("three", v.placeAll(0), 3);
        is("two homes, the tongues", v.childIs(e, 0), 1);
        is("two homes, the tongues", v.childIs(f, 0), 0);
        is("two homes, the tongues", v.childIs(g, 0), 0);

        FosterHouse u = fresh();
        openHome(u, 0, 0, 1);
        openHome(u, 0, 0, 1);
        u.rest(0, 0, 0);
        int h = childInCare(u, 13 * YEAR, 0, 0, 0, 0);
        int i = childInCare(u, 13 * YEAR, 0, 0, 0, 0);
        u.wish(h, 1, false);
        is("one", u.placeAll(0), 1);
        is("it may not", u.childIs(h, 0), NONE);
        is("it may", u.childIs(i, 0), 1);
    }

    private static void visits() {
        FosterHouse x = fresh();
        int home = openHome(x, 0, 0, 5);
        int child = childInCare(x, 3000, 0, 0, 0, 0);
        for (int no : new int[] {-1, 1, 16}) {
            failsAndChangesNothing("visits without child", INDEX, x, () -> x.visits(no, 1));
            fails("visits without child, badly", INDEX, () -> x.visits(no, 31));
        }
        fails("visits below 0", ARGUMENT, () -> x.visits(child, -1));
        fails("visits above 30", ARGUMENT, () -> x.visits(child, 31));
        is("none at first", x.visits(child, 30), 0);
        is("what it was", x.visits(child, 3), 30);
        pass(x, 2);
        x.place(child, home);
        pass(x, 2);
        is("none is due", x.childIs(child, 4), 0);
        pass(x, 1);
        is("3 days behind the beginning", x.childIs(child, 4), 1);
        pass(x, 5);
        is("twice as many", x.childIs(child, 4), 2);
        x.visits(child, 4);
        is("the beginning of today is over", x.childIs(child, 4), 2);
        pass(x, 1);
        is("three times 3 no more", x.childIs(child, 4), 2);
        pass(x, 3);
        is("counted from the beginning of the stay", x.childIs(child, 4), 3);
        is("what it was", x.visits(child, 0), 4);
        pass(x, 100);
        is("none are due", x.childIs(child, 4), 3);
        x.visits(child, 1);
        pass(x, 2);
        is("each day", x.childIs(child, 4), 5);
        x.order(child, HOME, 117, 1);
        pass(x, 1);
        is("not on the day on which it goes back", x.childIs(child, 4), 5);
        pass(x, 5);
        is("none without a home", x.childIs(child, 4), 5);
        is("none was kept", x.childIs(child, 3), 0);
    }

    private static void came() {
        FosterHouse x = fresh();
        int home = openHome(x, 0, 0, 5);
        int other = openHome(x, 0, 0, 5);
        int child = childInCare(x, 3000, 0, 0, 0, 0);
        for (int no : new int[] {-1, 1, 16}) failsAndChangesNothing("came without child", INDEX, x, () -> x.came(no));
        failsAndChangesNothing("came without home", STATE, x, () -> x.came(child));
        x.visits(child, 5);
        x.place(child, home);
        x.came(child);
        pass(x, 5);
        is("kept", x.childIs(child, 3), 1);
        pass(x, 5);
        is("once is for one alone", x.childIs(child, 4), 1);
        x.came(child);
        x.came(child);
        pass(x, 10);
        is("twice is for one alone", x.childIs(child, 3), 2);
        is("the next one is missed", x.childIs(child, 4), 2);
        x.came(child);
        x.place(child, other);
        pass(x, 5);
        is("it was told ahead of the beginning of the stay", x.childIs(child, 3), 2);
        is("so it is missed", x.childIs(child, 4), 3);
        x.came(child);
        x.order(child, HOME, 26, 1);
        pass(x, 1);
        failsAndChangesNothing("came, back at home", STATE, x, () -> x.came(child));
        pass(x, 1);
        x.place(child, other);
        pass(x, 5);
        is("a stay ahead does not count", x.childIs(child, 4), 4);
        x.visits(child, 0);
        x.came(child);
        pass(x, 8);
        x.visits(child, 7);
        pass(x, 1);
        is("it was told since the one ahead", x.childIs(child, 3), 3);
    }

    private static void watched() {
        FosterHouse x = fresh();
        int home = openHome(x, 0, 0, 5);
        int child = childInCare(x, 3000, 0, 0, 0, 0);
        x.visits(child, 1);
        x.place(child, home);
        pass(x, 2);
        is("two missed", x.childIs(child, 5), 0);
        x.came(child);
        pass(x, 3);
        is("two missed again", x.childIs(child, 5), 0);
        x.order(child, HOME, 6, 1);
        pass(x, 2);
        x.place(child, home);
        is("not yet", x.childIs(child, 5), 0);
        pass(x, 1);
        is("the third one, in another stay", x.childIs(child, 5), 1);
        for (int k = 0; k < 2; k++) {
            x.came(child);
            pass(x, 1);
        }
        is("two are kept", x.childIs(child, 5), 1);
        pass(x, 1);
        for (int k = 0; k < 2; k++) {
            x.came(child);
            pass(x, 1);
        }
        is("two are kept again", x.childIs(child, 5), 1);
        x.came(child);
        pass(x, 1);
        is("three are kept", x.childIs(child, 5), 0);
        pass(x, 2);
        is("two are missed", x.childIs(child, 5), 0);
        pass(x, 1);
        is("three are missed", x.childIs(child, 5), 1);
    }

    private static void pay() {
        FosterHouse x = fresh();
        int home = openHome(x, 0, 0, 5);
        for (int no : new int[] {-1, 1, 10}) {
            failsAndChangesNothing("pay without home", INDEX, x, () -> x.pay(no, 1));
            fails("pay without home, badly", INDEX, () -> x.pay(no, 0));
        }
        for (int money : new int[] {0, -1, 100001, Integer.MIN_VALUE}) {
            failsAndChangesNothing("pay badly", ARGUMENT, x, () -> x.pay(home, money));
        }
        is("paid ahead", x.pay(home, 1), -1);
        is("paid more", x.pay(home, 100000), -100001);
        int child = childInCare(x, 3000, 3, 0, 0, 0);
        x.place(child, home);
        is("today is not over", x.owed(home), -100001);
        pass(x, 2);
        is("less what is due", x.pay(home, 1), -100002 + 2 * (10 + 8 + 10));
    }

    private static void owed() {
        FosterHouse x = fresh();
        int home = openHome(x, 0, 0, 5);
        int other = openHome(x, 0, 0, 5);
        for (int no : new int[] {-1, 2, 10}) fails("owed without home", INDEX, () -> x.owed(no));
        is("nothing", x.owed(home), 0);
        int child = childInCare(x, 10 * YEAR - 2, 15, 0, 0, 0);
        x.place(child, home);
        pass(x, 1);
        is("a day", x.owed(home), 10 + 9 + 20);
        pass(x, 2);
        is("a birthday", x.owed(home), 2 * (10 + 9 + 20) + 10 + 10 + 20);
        int baby = childInCare(x, 0, 0, 0, 0, 0);
        x.place(baby, other);
        is("to the other none", x.owed(other), 0);
        pass(x, 365);
        is("a year", x.owed(other), 3650);
        pass(x, 1);
        is("a year and a day", x.owed(other), 3650 + 11);
        int ahead = x.owed(home);
        x.order(child, HOME, 370, 1);
        pass(x, 1);
        is("the day ahead is the last one", x.owed(home), ahead + 10 + 11 + 20);
        pass(x, 10);
        is("and no more", x.owed(home), ahead + 10 + 11 + 20);

        FosterHouse y = fresh();
        int long1 = openHome(y, 0, 0, 5);
        int old = y.child(7000, 5, 0, 0, 0);
        y.order(old, CARE, 0, 7000);
        y.order(old, CARE, 7000, 7000);
        y.approve(long1, 0, 17, 20000);
        is("too old", y.why(old, long1), 3);
        int kid = y.child(100, 5, 0, 0, 0);
        y.order(kid, CARE, 0, 7000);
        y.order(kid, STAY, 7000, 7000);
        y.place(kid, long1);
        pass(y, 12000);
        int sum = 0;
        for (int day = 0; day < 12000; day++) sum += 10 + (100 + day) / YEAR + 10;
        is("all days", y.owed(long1), sum);
    }

    private static void handOver() {
        FosterHouse x = fresh();
        x.child(3000, 15, 0, 0, 0);
        for (int no : new int[] {-1, 1, 16}) failsAndChangesNothing("handOver without child", INDEX, x, () -> x.handOver(no, 0));
        for (int no : new int[] {-1, 5}) failsAndChangesNothing("handOver without worker", INDEX, x, () -> x.handOver(0, no));
        is("the first worker", x.handOver(0, 4), 0);
        is("then the last one", x.childIs(0, 6), 4);
        is("to oneself", x.handOver(0, 4), 4);
        is("its load", x.load(4), 6);
        is("no load", x.load(0), 0);
        is("back", x.handOver(0, 0), 4);
        is("its load", x.load(0), 6);
    }

    private static void load() {
        FosterHouse x = fresh();
        for (int no : new int[] {-1, 5, Integer.MAX_VALUE}) fails("load without worker", INDEX, () -> x.load(no));
        int home = openHome(x, 0, 0, 5);
        int[] needs = {7, 1, 0, 0, 3};
        for (int k = 0; k < 5; k++) {
            childInCare(x, 3000, needs[k], 0, 0, 0);
            is("each has one", x.childIs(k, 6), k);
        }
        int[] due = {5, 3, 2, 2, 4};
        for (int k = 0; k < 5; k++) is("load", x.load(k), due[k]);
        x.child(3000, 0, 0, 0, 0);
        is("of several the lowest", x.childIs(5, 6), 2);
        x.place(3, home);
        is("in a home", x.load(3), 5);
        x.child(3000, 0, 0, 0, 0);
        is("the least one", x.childIs(6, 6), 1);
        is("both of its children", x.load(1), 5);
        x.order(3, HOME, 1, 1);
        pass(x, 1);
        is("back at home", x.load(3), 2);
        x.child(3000, 0, 0, 0, 0);
        is("the least one", x.childIs(7, 6), 3);
    }

    private static void passDays() {
        FosterHouse x = fresh();
        int home = openHome(x, 0, 0, 5);
        int child = childInCare(x, 3000, 0, 0, 0, 0);
        x.place(child, home);
        for (int days : new int[] {0, -1, 401, Integer.MAX_VALUE, Integer.MIN_VALUE}) {
            failsAndChangesNothing("pass badly", ARGUMENT, x, () -> x.pass(days));
        }
        pass(x, 400);
        x.order(child, HOME, 400, 1);
        is("the beginning of today is over", x.childIs(child, 0), home);
        pass(x, 1);
        is("HOME was for that day alone", x.childIs(child, 0), home);
        x.order(child, HOME, 401, 2);
        pass(x, 1);
        is("HOME counts at the beginning of the day", x.childIs(child, 0), NONE);
        is("the stay ended then", x.stay(0, 3), 402);
        pass(x, 1);
        x.place(child, home);
        x.order(child, STAY, 404, 10);
        x.order(child, HOME, 408, 1);
        x.order(child, STAY, 408, 1);
        pass(x, 8);
        is("STAY counts, told last", x.childIs(child, 0), home);
        x.order(child, HOME, 420, 1);
        pass(x, 50);
        is("in the midst of many days", x.stay(1, 3), 420);
        x.place(child, home);
        x.approve(home, 0, 0, 0);
        x.rest(home, 461, 500);
        x.wish(child, home, false);
        pass(x, 30);
        is("it is not looked at again", x.childIs(child, 0), home);
        pass(x, 7000 - 491);
        is("CARE no longer counts", x.stay(2, 3), 7000);
        pass(x, 4999);
        failsAndChangesNothing("above 12000", STATE, x, () -> x.pass(2));
        failsAndChangesNothing("above 12000, badly", ARGUMENT, x, () -> x.pass(401));
        pass(x, 1);
        failsAndChangesNothing("above 12000", STATE, x, () -> x.pass(1));
    }

    private static void childIs() {
        FosterHouse x = fresh();
        int home = openHome(x, 0, 0, 5);
        int other = openHome(x, 0, 0, 5);
        int child = childInCare(x, 364, 0, 0, 0, 0);
        int second = childInCare(x, 364, 0, 0, 0, 0);
        for (int no : new int[] {-1, 2, 16}) {
            fails("childIs without child", INDEX, () -> x.childIs(no, 0));
            fails("childIs without child, badly", INDEX, () -> x.childIs(no, 7));
        }
        for (int what : new int[] {-1, 7, Integer.MAX_VALUE}) fails("childIs badly", ARGUMENT, () -> x.childIs(child, what));
        int[] due = {NONE, 0, 0, 0, 0, 0, 0};
        for (int what = 0; what < 7; what++) is("childIs " + what, x.childIs(child, what), due[what]);
        x.visits(child, 1);
        x.place(child, other);
        is("its home", x.childIs(child, 0), other);
        is("the stay that goes on is one", x.childIs(child, 2), 1);
        x.came(child);
        pass(x, 1);
        is("a year", x.childIs(child, 1), 1);
        is("kept", x.childIs(child, 3), 1);
        is("missed", x.childIs(child, 4), 0);
        pass(x, 3);
        is("kept", x.childIs(child, 3), 1);
        is("missed", x.childIs(child, 4), 3);
        is("WATCHED", x.childIs(child, 5), 1);
        x.place(child, home);
        is("two stays", x.childIs(child, 2), 2);
        is("its home", x.childIs(child, 0), home);
        is("the other", x.childIs(second, 6), 1);
        is("the other", x.childIs(second, 2), 0);
        is("the other", x.childIs(second, 5), 0);
    }

    private static void stay() {
        FosterHouse x = fresh();
        int home = openHome(x, 0, 0, 5);
        int other = openHome(x, 0, 0, 5);
        int idle = x.child(0, 0, 0, 0, 0);
        int child = childInCare(x, 3000, 0, 0, 0, 0);
        pass(x, 5);
        x.order(child, CARE, 5, 10);
        x.place(child, other);
        for (int no : new int[] {-1, 1, 100, Integer.MAX_VALUE}) {
            fails("stay that is not", INDEX, () -> x.stay(no, 0));
            fails("stay that is not, badly", INDEX, () -> x.stay(no, 5));
        }
        for (int what : new int[] {-1, 5}) fails("stay badly", ARGUMENT, () -> x.stay(0, what));
        int[] due = {child, other, 5, NONE, 1};
        for (int what = 0; what < 5; what++) is("stay " + what, x.stay(0, what), due[what]);
        x.order(child, CARE, 5, 100);
        is("it keeps the order that counted then", x.stay(0, 4), 1);
        pass(x, 2);
        x.place(child, home);
        is("ended", x.stay(0, 3), 7);
        is("the home stays", x.stay(0, 1), other);
        int[] then = {child, home, 7, NONE, 2};
        for (int what = 0; what < 5; what++) is("stay " + what, x.stay(1, what), then[what]);
        is("idle", x.childIs(idle, 2), 0);
    }

    private static void wasAllowed() {
        FosterHouse x = fresh();
        int home = openHome(x, 0, 0, 1);
        int child = childInCare(x, 13 * YEAR, 1, 0, 0, 0);
        for (int no : new int[] {-1, 0, 100}) fails("wasAllowed of no stay", INDEX, () -> x.wasAllowed(no));
        pass(x, 5);
        x.place(child, home);
        is("allowed", x.wasAllowed(0), true);
        x.wish(child, home, false);
        is("wishes are not looked at", x.wasAllowed(0), true);
        x.approve(home, 0, 12, 20000);
        is("age, told on the same day", x.wasAllowed(0), false);
        x.approve(home, 0, 17, 4);
        is("approval, told on the same day", x.wasAllowed(0), false);
        x.approve(home, 0, 17, 5);
        is("the last one told holds", x.wasAllowed(0), true);
        x.train(home, 2, 20000);
        is("training", x.wasAllowed(0), false);
        x.train(home, 1, 5);
        is("training", x.wasAllowed(0), true);
        x.rest(home, 5, 5);
        is("rest", x.wasAllowed(0), false);
        x.rest(home, 6, 6);
        is("rest", x.wasAllowed(0), true);
        x.order(child, STAY, 6, 1);
        is("an order for tomorrow", x.wasAllowed(0), true);
        pass(x, 1);
        x.approve(home, 0, 0, 0);
        x.train(home, 0, 0);
        x.rest(home, 6, 100);
        is("what held on days ahead stays known", x.wasAllowed(0), true);
        x.order(child, HOME, 6, 50);
        is("orders of other days", x.wasAllowed(0), true);
        pass(x, 1);
        is("when it is over, too", x.wasAllowed(0), true);
        pass(x, 400);
        x.order(child, CARE, 407, 10);
        x.approve(home, 0, 17, 500);
        x.train(home, 1, 500);
        x.wish(child, home, true);
        is("another stay", x.place(child, home), 1);
        is("allowed", x.wasAllowed(1), true);
        x.order(child, CARE, 408, 10);
        is("by the order of then", x.wasAllowed(1), true);
        x.order(child, STAY, 407, 1);
        is("an order told on the same day", x.wasAllowed(1), false);
        is("the one ahead", x.wasAllowed(0), true);
    }

    private static void blacken() {
        FosterHouse x = fresh();
        int home = openHome(x, 0, 0, 1);
        x.home(0, 0, 1);
        for (int no : new int[] {-1, 2, 10}) failsAndChangesNothing("blacken no home", INDEX, x, () -> x.blacken(no, true));
        is("it was not", x.blacken(home, false), false);
        is("it was not", x.blacken(home, true), false);
        is("it was", x.blacken(home, true), true);
        is("the other was not", x.blacken(1, true), false);
        is("it was", x.blacken(home, false), true);
        is("it was not", x.blacken(home, false), false);
    }

    private static void file() {
        FosterHouse x = fresh();
        int home = openHome(x, 0, 0, 1);
        int other = openHome(x, 0, 0, 2);
        int child = childInCare(x, 18 * YEAR - 10, 0, 0, 0, 0);
        int second = childInCare(x, 17 * YEAR, 0, 0, 0, 0);
        for (int no : new int[] {-1, 2, 16}) fails("file of no child", INDEX, () -> x.file(no, 0));
        fails("file at no place", INDEX, () -> x.file(child, -1));
        failsAndChangesNothing("sealed", STATE, x, () -> x.file(child, 0));
        x.place(child, other);
        x.place(second, other);
        pass(x, 3);
        x.place(child, home);
        pass(x, 2);
        x.order(child, HOME, 6, 1);
        pass(x, 2);
        x.place(child, other);
        pass(x, 2);
        failsAndChangesNothing("sealed, the last day", STATE, x, () -> x.file(child, 0));
        fails("sealed, at no place", INDEX, () -> x.file(child, Integer.MIN_VALUE));
        pass(x, 1);
        int[] due = {other, home, other, NONE, NONE};
        for (int k = 0; k < due.length; k++) is("file " + k, x.file(child, k), due[k]);
        is("far behind", x.file(child, Integer.MAX_VALUE), NONE);
        x.blacken(other, true);
        int[] black = {BLACK, home, BLACK, NONE};
        for (int k = 0; k < black.length; k++) is("file " + k, x.file(child, k), black[k]);
        x.blacken(other, false);
        is("no longer black", x.file(child, 0), other);
        fails("the other's is sealed", STATE, () -> x.file(second, 0));
        pass(x, 400);
        is("the other's", x.file(second, 0), other);
        is("the other's", x.file(second, 1), NONE);
        int grown = x.child(7000, 0, 0, 0, 0);
        is("nothing in it", x.file(grown, 0), NONE);
    }
}
