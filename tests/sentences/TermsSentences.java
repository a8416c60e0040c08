/** How many calls there can be, the constants, and what is said of exceptions and days over all. */
final class TermsSentences extends Section {
    /** Each call with arguments that are fine in the world of settle(), and the first argument that has a range. */
    private static final Object[][] RANGED = {
        {"child", 0, new int[] {0, 0, 0, 0, 0}}, {"home", 0, new int[] {0, 0, 1}}, {"approve", 1, new int[] {0, 0, 17, 9}},
        {"train", 1, new int[] {0, 0, 9}}, {"rest", 1, new int[] {0, 5, 9}}, {"report", 1, new int[] {0, 0, 1}},
        {"order", 1, new int[] {0, 0, 5, 1}}, {"counts", 1, new int[] {0, 0}}, {"placeAll", 0, new int[] {0}},
        {"visits", 1, new int[] {0, 0}}, {"pay", 1, new int[] {0, 1}}, {"pass", 0, new int[] {1}},
        {"childIs", 1, new int[] {0, 0}}, {"stay", 1, new int[] {0, 0}}};

    TermsSentences(Sheet sheet) {
        super(sheet);
    }

    @Override
    void all() {
        calls();
        constants();
        exceptions();
        nothingChanges();
        days();
    }

    /** Child 0 in home 0 by stay 0, with visits that are due each 2 days, a report and a day behind; it is day 5. */
    private static void settle(World w) {
        int home = w.open(0, 0, 2);
        int kid = w.kid(3000, 3, 0, 10, 0);
        w.pass(4);
        w.ask("visits", kid, 2);
        w.ask("place", kid, home);
        w.ask("came", kid);
        w.ask("report", kid, 1, 5);
        w.ask("pass", 1);
    }

    private void calls() {
        use("An object is used for at most 512 calls after it has been made", w -> {
            int home = w.open(0, 0, 1);
            int kid = w.kid(0, 0, 0, 0, 0);
            w.ask("visits", kid, 1);
            w.ask("place", kid, home);
            while (w.calls() < 510) w.ask("pass", 1);
            // 503 days: 365 of age 0, 138 of age 1.
            w.is(5030 + 138, "owed", home);
            w.is(503, "childIs", kid, MISSED);
        });
        use("An object is used for at most 512 calls after it has been made", w -> {
            w.open(0, 0, 1);
            int kid = w.kid(0);
            for (int other = 1; other < 5; other++) w.kid(0);
            w.ask("place", kid, 0);
            while (w.calls() < 512) w.is(0, "placeAll", 0);
        });
    }

    private void constants() {
        terms("`NONE = -1`: There is none.", w -> {
            w.ask("child", 0, 0, 0, 0, 0);
            w.is(FosterHouse.NONE, "counts", 0, 0);
            w.is(-1, "childIs", 0, ITS_HOME);
        });
        terms("`BLACK = -2`: A home that is blackened in a file.", w -> {
            int home = w.open(0, 0, 1);
            int kid = w.kid(18 * YEAR - 1, 0, 0, 0, 0);
            w.ask("place", kid, home);
            w.ask("blacken", home, YES);
            w.pass(1);
            w.is(FosterHouse.BLACK, "file", kid, 0);
            w.is(-2, "file", kid, 0);
        });
        terms("`CARE = 0, HOME = 1, STAY = 2`: Orders.", w -> {
            int home = w.open(0, 0, 1);
            int kid = w.ask("child", 3000, 0, 0, 0, 0);
            w.ask("order", kid, FosterHouse.CARE, 0, 2);
            w.is(0, "why", kid, home);
            w.ask("place", kid, home);
            w.ask("order", kid, FosterHouse.STAY, 2, 2);
            w.pass(2);
            w.is(1, "why", kid, home);
            w.is(home, "childIs", kid, ITS_HOME);
            w.ask("order", kid, FosterHouse.HOME, 3, 1);
            w.pass(1);
            w.is(NONE, "childIs", kid, ITS_HOME);
        });
        terms("`CARE = 0, HOME = 1, STAY = 2`: Orders.", w -> {
            int home = w.open(0, 0, 1);
            int kid = w.ask("child", 3000, 0, 0, 0, 0);
            w.ask("order", kid, 0, 0, 2);
            w.is(0, "why", kid, home);
            w.ask("place", kid, home);
            w.ask("order", kid, 2, 2, 2);
            w.pass(2);
            w.is(1, "why", kid, home);
            w.is(home, "childIs", kid, ITS_HOME);
            w.ask("order", kid, 1, 3, 1);
            w.pass(1);
            w.is(NONE, "childIs", kid, ITS_HOME);
        });
    }

    private void exceptions() {
        terms("A method throws IndexOutOfBoundsException if there is no such child, home, worker, order, stay or place", w -> {
            settle(w);
            for (int no : World.noneOf(1)) {
                w.refused(INDEX, "report", no, 0, 1);
                w.refused(INDEX, "order", no, CARE, 5, 1);
                w.refused(INDEX, "counts", no, 5);
                w.refused(INDEX, "wish", no, 0, YES);
                w.refused(INDEX, "visits", no, 1);
                w.refused(INDEX, "handOver", no, 0);
                w.refused(INDEX, "childIs", no, 0);
                w.refused(INDEX, "file", no, 0);
                for (String call : new String[] {"see", "risk", "seeBy", "best", "came"}) w.refused(INDEX, call, no);
                for (String call : new String[] {"why", "worth", "place"}) {
                    w.refused(INDEX, call, no, 0);
                    w.refused(INDEX, call, 0, no);
                }
                w.refused(INDEX, "wish", 0, no, YES);
                w.refused(INDEX, "approve", no, 0, 17, 9);
                w.refused(INDEX, "train", no, 0, 9);
                w.refused(INDEX, "rest", no, 5, 9);
                w.refused(INDEX, "pay", no, 1);
                w.refused(INDEX, "owed", no);
                w.refused(INDEX, "blacken", no, YES);
                w.refused(INDEX, "stay", no, 0);
                w.refused(INDEX, "wasAllowed", no);
            }
            for (int no : World.noneOf(5)) {
                w.refused(INDEX, "handOver", 0, no);
                w.refused(INDEX, "load", no);
            }
            w.refused(INDEX, "file", 0, -1);
            w.refused(INDEX, "file", 0, LEAST);
        });
        terms("IllegalArgumentException if another argument is out of range", w -> {
            settle(w);
            for (Object[] ranged : RANGED) {
                int[] fine = (int[]) ranged[2];
                for (int at = (Integer) ranged[1]; at < fine.length; at++) {
                    for (int value : new int[] {-1, LEAST, MOST}) {
                        int[] odd = fine.clone();
                        odd[at] = value;
                        w.refused(ARGUMENT, (String) ranged[0], odd);
                    }
                }
            }
        });
        terms("and IllegalStateException as it documents", w -> {
            settle(w);
            w.refused(STATE, "place", 0, 0);
            w.refused(STATE, "file", 0, 0);
            w.ask("child", 0, 0, 1, 0, 0);
            w.refused(STATE, "came", 1);
            w.refused(STATE, "place", 1, 0);
        });
        terms("if several apply, the one that it lists first is thrown", w -> {
            settle(w);
            w.refused(INDEX, "approve", 1, -1, 17, 9);
            w.refused(INDEX, "train", 1, 16, 9);
            w.refused(INDEX, "rest", 1, 4, 9);
            w.refused(INDEX, "counts", 1, -1);
            w.refused(INDEX, "visits", 1, 31);
            w.refused(INDEX, "pay", 1, 0);
            w.refused(INDEX, "childIs", 1, 7);
            w.refused(INDEX, "stay", 1, 5);
            w.refused(INDEX, "report", 1, 10, 1);
            w.refused(INDEX, "order", 1, 3, 5, 1);
            w.refused(INDEX, "file", 0, -1);
            w.refused(INDEX, "file", 1, -1);
            w.refused(INDEX, "place", 0, 1);
            w.refused(INDEX, "wish", 1, 1, YES);
            w.refused(INDEX, "handOver", 1, 5);
        });
        terms("if several apply, the one that it lists first is thrown", w -> {
            for (int child = 0; child < 16; child++) w.ask("child", 0, 0, 0, 0, 0);
            for (int home = 0; home < 10; home++) w.ask("home", 0, 0, 1);
            for (int report = 0; report < 30; report++) w.ask("report", 0, 0, 1);
            for (int order = 0; order < 60; order++) w.ask("order", order % 16, CARE, 0, 1);
            w.refused(ARGUMENT, "child", 7001, 0, 0, 0, 0);
            w.refused(ARGUMENT, "home", 0, 0, 0);
            w.refused(ARGUMENT, "report", 0, 10, 1);
            w.refused(INDEX, "report", 16, 10, 1);
            w.refused(ARGUMENT, "order", 0, CARE, 0, 0);
            w.refused(INDEX, "order", 16, CARE, 0, 0);
            w.refused(INDEX, "order", 16, CARE, 0, 1);
            w.refused(ARGUMENT, "placeAll", 8);
            w.pass(12000);
            w.refused(ARGUMENT, "pass", 401);
            w.refused(ARGUMENT, "pass", 0);
        });
    }

    private void nothingChanges() {
        terms("A call that throws changes nothing.", w -> {
            settle(w);
            for (Object[] ranged : RANGED) {
                int[] odd = ((int[]) ranged[2]).clone();
                odd[odd.length - 1] = -1;
                w.refused(ARGUMENT, (String) ranged[0], odd);
            }
            w.refused(INDEX, "handOver", 0, 5);
            w.refused(INDEX, "wish", 0, 1, NO);
            w.refused(INDEX, "blacken", 1, YES);
            w.refused(STATE, "place", 0, 0);
            w.is(0, "stay", 0, OF_CHILD);
            w.is(NONE, "stay", 0, ENDED);
            w.is(0, "childIs", 0, WORKER);
            w.is(1, "childIs", 0, STAYS);
            w.is(2, "visits", 0, 2);
            w.is(5, "risk", 0);
            w.is(10 + 8 + 10, "owed", 0);
            w.is(6, "pass", 1);
            w.is(1, "childIs", 0, KEPT);
            w.is(1, "order", 0, CARE, 6, 1);
            w.is(1, "child", 0, 0, 0, 0, 0);
            w.is(1, "home", 0, 0, 1);
        });
        terms("A call that throws changes nothing.", w -> {
            int home = w.open(0, 0, 1);
            int other = w.open(0, 0, 1);
            int kid = w.kid(0);
            w.fillStays(100, kid, home, other);
            w.refused(STATE, "place", kid, home);
            w.is(other, "childIs", kid, ITS_HOME);
            w.is(NONE, "stay", 99, ENDED);
            w.is(100, "childIs", kid, STAYS);
            w.refused(INDEX, "stay", 100, 0);
        });
        terms("A call that throws changes nothing.", w -> {
            int home = w.open(0, 0, 1);
            int other = w.open(0, 0, 5);
            int kid = w.kid(0);
            w.kid(1);
            w.kid(1);
            w.fillStays(99, kid, home, other);
            w.refused(STATE, "placeAll", 1);
            w.is(NONE, "childIs", 1, ITS_HOME);
            w.is(NONE, "childIs", 2, ITS_HOME);
            w.refused(INDEX, "stay", 99, 0);
            w.is(99, "place", 1, other);
        });
        terms("A call that throws changes nothing.", w -> {
            w.open(0, 0, 5);
            for (int kid = 0; kid < 6; kid++) w.kid(1);
            w.refused(STATE, "placeAll", 1);
            for (int kid = 0; kid < 6; kid++) w.is(NONE, "childIs", kid, ITS_HOME);
            w.is(0, "place", 0, 0);
        });
    }

    private void days() {
        terms("The day is 0 at first", w -> {
            int home = w.open(0, 0, 1);
            int kid = w.kid(0);
            w.is(0, "place", kid, home);
            w.is(0, "stay", 0, BEGAN);
            w.refused(ARGUMENT, "order", kid, CARE, -1, 1);
            w.ask("order", kid, CARE, 0, 1);
            w.refused(ARGUMENT, "rest", home, -1, 0);
            w.ask("rest", home, 0, 0);
            w.is(1, "pass", 1);
        });
        terms("a year has 365 days", w -> {
            for (int days : new int[] {364, 365, 729, 730, 7000}) w.ask("child", days, 0, 0, 0, 0);
            int[] years = {0, 1, 1, 2, 19};
            for (int child = 0; child < 5; child++) w.is(years[child], "childIs", child, YEARS);
            w.pass(1);
            int[] then = {1, 1, 2, 2, 19};
            for (int child = 0; child < 5; child++) w.is(then[child], "childIs", child, YEARS);
        });
    }
}
