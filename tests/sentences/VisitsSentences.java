/** Stays, visits, money, workers and days that pass: promises 19 to 25, and what the terms say of them. */
final class VisitsSentences extends Section {
    VisitsSentences(Sheet sheet) {
        super(sheet);
    }

    @Override
    void all() {
        termsOfStays();
        termsOfDues();
        termsOfVisits();
        termsOfKept();
        termsOfWatched();
        termsOfWorkers();
        visits();
        came();
        pay();
        owed();
        handOver();
        load();
        pass();
        passIsRefused();
    }

    private static void visitsAre(World w, int child, int kept, int missed) {
        w.is(kept, "childIs", child, KEPT);
        w.is(missed, "childIs", child, MISSED);
    }

    /** A child in home 0 from today on, with visits that are due each so many days. */
    private static int visited(World w, int gap) {
        int home = w.open(0, 0, 5);
        w.open(0, 0, 5);
        int child = w.kid(0);
        w.ask("visits", child, gap);
        w.ask("place", child, home);
        return child;
    }

    /** The family comes today, and a visit is due tomorrow. */
    private static void keep(World w, int child, int times) {
        for (int time = 0; time < times; time++) {
            w.ask("came", child);
            w.pass(1);
        }
    }

    private void termsOfStays() {
        terms("A stay is a child in a home from a day up to another one, that one not with it", w -> {
            int home = w.open(0, 0, 1);
            int child = w.kid(0, 0, 0, 0, 0);
            w.pass(2);
            w.ask("place", child, home);
            w.ask("order", child, HOME, 5, 1);
            w.pass(9);
            w.is(2, "stay", 0, BEGAN);
            w.is(5, "stay", 0, ENDED);
            w.is(30, "owed", home);
        });
        terms("stays are numbered from 0 over all, at most 100", w -> {
            int home = w.open(0, 0, 2);
            int other = w.open(0, 0, 2);
            int first = w.kid(0);
            int second = w.kid(1);
            for (int stay = 0; stay < 100; stay++) w.is(stay, "place", stay % 2 == 0 ? first : second, stay % 4 < 2 ? home : other);
            w.refused(STATE, "place", first, home);
            w.is(50, "childIs", first, STAYS);
            w.is(50, "childIs", second, STAYS);
            w.is(second, "stay", 99, OF_CHILD);
            w.refused(INDEX, "stay", 100, 0);
        });
        terms("and keep the order that counted then", w -> {
            int home = w.open(0, 0, 1);
            int other = w.open(0, 0, 1);
            int child = w.kid(0);
            w.ask("order", child, CARE, 0, 2);
            w.ask("place", child, home);
            w.ask("order", child, CARE, 0, 50);
            w.is(1, "stay", 0, BY_ORDER);
            w.pass(3);
            w.is(1, "stay", 0, BY_ORDER);
            w.ask("place", child, other);
            w.is(1, "stay", 0, BY_ORDER);
            w.is(2, "stay", 1, BY_ORDER);
        });
    }

    private void termsOfDues() {
        String words = "For each day of a stay the home is due 10, and 1 for each year of the age of then, and 5 for each need.";
        terms(words, w -> {
            int home = w.open(0, 0, 1);
            int child = w.kid(6 * YEAR - 2, 0, 0, 0, 0);
            w.ask("place", child, home);
            int[] due = {0, 15, 30, 46, 62};
            for (int owed : due) {
                w.is(owed, "owed", home);
                w.pass(1);
            }
        });
        terms(words, w -> {
            int[] needs = {0, 1, 8, 6, 7, 15};
            int[] due = {10, 15, 15, 20, 25, 30};
            for (int kid = 0; kid < 6; kid++) {
                w.open(0, 0, 1);
                w.kid(0, needs[kid], kid, 0, 0);
                w.ask("place", kid, kid);
            }
            w.pass(1);
            for (int home = 0; home < 6; home++) w.is(due[home], "owed", home);
        });
        terms(words, w -> {
            int home = w.open(0, 0, 5);
            int other = w.open(0, 0, 1);
            for (int kid = 0; kid < 3; kid++) w.kid(0, 0, kid, 0, 0);
            for (int kid = 0; kid < 3; kid++) w.ask("place", kid, kid == 2 ? other : home);
            w.pass(1);
            w.is(20, "owed", home);
            w.is(10, "owed", other);
        });
        terms("What was paid to a home is told", w -> {
            int home = w.open(0, 0, 1);
            w.is(-3, "pay", home, 3);
            w.is(-7, "pay", home, 4);
            w.pass(9);
            w.is(-7, "owed", home);
        });
        terms("it is owed the dues of all its days that are over, less that, perhaps below 0.", w -> {
            int home = w.open(0, 0, 1);
            int other = w.open(0, 0, 1);
            int child = w.kid(0, 0, 0, 0, 0);
            w.ask("place", child, home);
            w.is(0, "owed", home);
            w.is(-25, "pay", home, 25);
            w.pass(2);
            w.is(-5, "owed", home);
            w.pass(1);
            w.is(5, "owed", home);
            w.is(0, "owed", other);
            w.ask("place", child, other);
            w.pass(1);
            w.is(5, "owed", home);
            w.is(10, "owed", other);
        });
        terms("it is owed the dues of all its days that are over, less that, perhaps below 0.", w -> {
            int home = w.open(0, 0, 1);
            for (int paid = 1; paid <= 400; paid++) w.is(-100000 * paid, "pay", home, 100000);
            w.is(-40000000, "owed", home);
        });
    }

    private void termsOfVisits() {
        terms("Visits of the family of a child in a home are due each so many days, told for the child, 0 for none", w -> {
            int child = visited(w, 0);
            w.pass(400);
            visitsAre(w, child, 0, 0);
            w.ask("visits", child, 30);
            int other = w.kid(1);
            w.ask("place", other, 0);
            w.pass(30);
            visitsAre(w, child, 0, 1);
            visitsAre(w, other, 0, 0);
        });
        terms("from the beginning of its stay on", w -> {
            int home = w.open(0, 0, 1);
            int child = w.kid(0);
            w.ask("visits", child, 3);
            w.pass(2);
            visitsAre(w, child, 0, 0);
            w.ask("place", child, home);
            visitsAre(w, child, 0, 0);
            w.pass(2);
            visitsAre(w, child, 0, 0);
            w.pass(1);
            visitsAre(w, child, 0, 1);
        });
        terms("That is so at the beginning of each day that is so many days behind that of the stay, or twice as many, and so on,"
            + " on which it is still there.", w -> {
            int child = visited(w, 4);
            int[] due = {0, 0, 0, 0, 1, 1, 1, 1, 2, 2, 2, 2, 3};
            for (int missed : due) {
                visitsAre(w, child, 0, missed);
                w.pass(1);
            }
        });
        terms("That is so at the beginning of each day that is so many days behind that of the stay, or twice as many, and so on,"
            + " on which it is still there.", w -> {
            int child = visited(w, 4);
            w.ask("order", child, HOME, 8, 1);
            w.pass(7);
            visitsAre(w, child, 0, 1);
            w.pass(1);
            w.is(NONE, "childIs", child, ITS_HOME);
            visitsAre(w, child, 0, 1);
            w.pass(8);
            visitsAre(w, child, 0, 1);
        });
        terms("That is so at the beginning of each day that is so many days behind that of the stay, or twice as many, and so on,"
            + " on which it is still there.", w -> {
            int child = visited(w, 4);
            w.pass(4);
            w.ask("place", child, 1);
            visitsAre(w, child, 0, 1);
            w.pass(3);
            visitsAre(w, child, 0, 1);
            w.pass(1);
            visitsAre(w, child, 0, 2);
        });
    }

    private void termsOfKept() {
        String words = "It is kept, if it was told since the one ahead, or the beginning of the stay, that the family came;"
            + " otherwise it is missed.";
        terms(words, w -> {
            int child = visited(w, 5);
            w.ask("came", child);
            w.ask("came", child);
            w.pass(5);
            visitsAre(w, child, 1, 0);
            w.pass(5);
            visitsAre(w, child, 1, 1);
            w.ask("came", child);
            w.pass(4);
            visitsAre(w, child, 1, 1);
            w.pass(1);
            visitsAre(w, child, 2, 1);
            w.pass(4);
            w.ask("came", child);
            w.pass(1);
            visitsAre(w, child, 3, 1);
        });
        terms(words, w -> {
            int child = visited(w, 5);
            w.pass(3);
            w.ask("came", child);
            w.ask("place", child, 1);
            w.pass(5);
            visitsAre(w, child, 0, 1);
        });
        terms(words, w -> {
            int child = visited(w, 5);
            w.ask("came", child);
            w.ask("order", child, HOME, 1, 1);
            w.pass(2);
            w.ask("place", child, 0);
            w.pass(5);
            visitsAre(w, child, 0, 1);
        });
        terms(words, w -> {
            int child = visited(w, 5);
            w.ask("came", child);
            w.pass(15);
            visitsAre(w, child, 1, 2);
        });
        terms(words, w -> {
            int child = visited(w, 0);
            w.ask("came", child);
            w.pass(9);
            visitsAre(w, child, 0, 0);
            w.ask("visits", child, 10);
            w.pass(1);
            visitsAre(w, child, 1, 0);
        });
        terms(words, w -> {
            int child = visited(w, 5);
            int other = w.kid(1);
            w.ask("visits", other, 5);
            w.ask("place", other, 0);
            w.ask("came", other);
            w.pass(5);
            visitsAre(w, child, 0, 1);
            visitsAre(w, other, 1, 0);
        });
    }

    private void termsOfWatched() {
        String words = "When three are missed one behind the other, in whichever stays, they are WATCHED, until three are kept so.";
        terms(words, w -> {
            int child = visited(w, 1);
            w.pass(2);
            w.is(NO, "childIs", child, WATCHED);
            w.pass(1);
            w.is(YES, "childIs", child, WATCHED);
            keep(w, child, 2);
            w.is(YES, "childIs", child, WATCHED);
            keep(w, child, 1);
            w.is(NO, "childIs", child, WATCHED);
            w.pass(2);
            w.is(NO, "childIs", child, WATCHED);
            w.pass(1);
            w.is(YES, "childIs", child, WATCHED);
        });
        terms(words, w -> {
            int child = visited(w, 1);
            w.pass(2);
            keep(w, child, 1);
            w.pass(2);
            w.is(NO, "childIs", child, WATCHED);
            w.pass(1);
            w.is(YES, "childIs", child, WATCHED);
            keep(w, child, 2);
            w.pass(1);
            keep(w, child, 2);
            w.is(YES, "childIs", child, WATCHED);
            keep(w, child, 1);
            w.is(NO, "childIs", child, WATCHED);
        });
        terms(words, w -> {
            int child = visited(w, 2);
            w.pass(4);
            w.ask("place", child, 1);
            w.pass(1);
            w.is(NO, "childIs", child, WATCHED);
            w.pass(1);
            w.is(YES, "childIs", child, WATCHED);
        });
        terms(words, w -> {
            int child = visited(w, 1);
            w.ask("order", child, HOME, 4, 1);
            w.pass(4);
            w.is(NONE, "childIs", child, ITS_HOME);
            w.is(YES, "childIs", child, WATCHED);
            w.pass(3);
            w.ask("place", child, 1);
            keep(w, child, 2);
            w.ask("place", child, 0);
            w.is(YES, "childIs", child, WATCHED);
            keep(w, child, 1);
            w.is(NO, "childIs", child, WATCHED);
        });
    }

    private void termsOfWorkers() {
        terms("Workers are numbered 0 to 4", w -> {
            int child = w.ask("child", 0, 0, 0, 0, 0);
            for (int worker = 0; worker < 5; worker++) {
                w.is(Math.max(0, worker - 1), "handOver", child, worker);
                w.is(2, "load", worker);
            }
            w.refused(INDEX, "handOver", child, 5);
            w.refused(INDEX, "load", 5);
            w.refused(INDEX, "load", -1);
        });
        terms("each child has one: the one with the least load when it is told, of several the lowest", w -> {
            int[] needs = {15, 7, 1, 0, 0, 0, 0, 0};
            int[] due = {0, 1, 2, 3, 4, 3, 4, 2};
            for (int child = 0; child < needs.length; child++) {
                w.ask("child", 0, needs[child], 0, 0, 0);
                w.is(due[child], "childIs", child, WORKER);
            }
        });
        terms("each child has one: the one with the least load when it is told, of several the lowest", w -> {
            int home = w.open(0, 0, 1);
            for (int child = 0; child < 5; child++) w.kid(0);
            w.ask("place", 0, home);
            w.ask("child", 0, 0, 0, 0, 0);
            w.is(1, "childIs", 5, WORKER);
            // A load that changes later moves no child.
            w.ask("handOver", 1, 4);
            w.is(1, "childIs", 5, WORKER);
            w.is(2, "load", 1);
        });
        terms("The load is the sum, over its children, of 2, 3 more if it is in a home, and 1 for each need.", w -> {
            int home = w.open(0, 0, 2);
            int child = w.kid(3000, 15, 0, 0, 0);
            int other = w.kid(3000, 4, 0, 0, 0);
            w.is(6, "load", 0);
            w.is(3, "load", 1);
            w.ask("place", child, home);
            w.is(9, "load", 0);
            w.ask("handOver", other, 0);
            w.is(12, "load", 0);
            w.is(0, "load", 1);
            w.ask("order", child, HOME, 1, 1);
            w.pass(1);
            w.is(9, "load", 0);
        });
        terms("A child can be handed over.", w -> {
            int child = w.ask("child", 0, 0, 0, 0, 0);
            int other = w.ask("child", 0, 0, 0, 0, 0);
            w.is(0, "handOver", child, 1);
            w.is(1, "childIs", child, WORKER);
            w.is(1, "childIs", other, WORKER);
            w.is(4, "load", 1);
            w.is(0, "load", 0);
        });
    }

    private void visits() {
        promise(19, "Sets how often visits are due, from today on, counted from the beginning of a stay.", w -> {
            int child = visited(w, 3);
            w.pass(4);
            visitsAre(w, child, 0, 1);
            w.ask("visits", child, 4);
            visitsAre(w, child, 0, 1);
            w.pass(3);
            visitsAre(w, child, 0, 1);
            w.pass(1);
            visitsAre(w, child, 0, 2);
            w.ask("visits", child, 3);
            w.pass(1);
            visitsAre(w, child, 0, 3);
            w.ask("visits", child, 0);
            w.pass(30);
            visitsAre(w, child, 0, 3);
        });
        promise(19, "`days`: 0 to 30", w -> {
            int child = visited(w, 5);
            w.range(0, 30, 1, "visits", child, 0);
            w.pass(29);
            visitsAre(w, child, 0, 0);
            w.pass(1);
            visitsAre(w, child, 0, 1);
            w.ask("visits", child, 1);
            w.pass(2);
            visitsAre(w, child, 0, 3);
        });
        promise(19, "Returns what it was.", w -> {
            int child = w.ask("child", 0, 0, 0, 0, 0);
            int other = w.ask("child", 0, 0, 0, 0, 0);
            w.is(0, "visits", child, 30);
            w.is(30, "visits", child, 30);
            w.refused(ARGUMENT, "visits", child, 31);
            w.is(30, "visits", child, 0);
            w.is(0, "visits", child, 0);
            w.is(0, "visits", other, 1);
        });
        promise(19, "Throws `IndexOutOfBoundsException` if there is no such child", w -> {
            w.refused(INDEX, "visits", 0, 1);
            int child = visited(w, 5);
            for (int no : World.noneOf(1)) {
                w.refused(INDEX, "visits", no, 1);
                w.refused(INDEX, "visits", no, 31);
            }
            w.refused(INDEX, "visits", 16, 1);
            w.is(5, "visits", child, 5);
        });
        promise(19, "Throws `IllegalArgumentException` if days is out of range", w -> {
            int child = visited(w, 5);
            for (int days : new int[] {-1, 31, LEAST, MOST}) w.refused(ARGUMENT, "visits", child, days);
            w.pass(5);
            visitsAre(w, child, 0, 1);
        });
    }

    private void came() {
        promise(20, "Tells that the family came.", w -> {
            int child = visited(w, 1);
            w.ask("came", child);
            w.pass(1);
            visitsAre(w, child, 1, 0);
        });
        promise(20, "Throws `IndexOutOfBoundsException` if there is no such child", w -> {
            w.refused(INDEX, "came", 0);
            int child = visited(w, 1);
            for (int no : World.noneOf(1)) w.refused(INDEX, "came", no);
            w.refused(INDEX, "came", 16);
            w.pass(1);
            visitsAre(w, child, 0, 1);
        });
        promise(20, "Throws `IllegalStateException` if it is in no home", w -> {
            int child = w.kid(0);
            w.refused(STATE, "came", child);
            int home = w.open(0, 0, 1);
            w.ask("visits", child, 1);
            w.refused(STATE, "came", child);
            w.ask("place", child, home);
            w.pass(1);
            visitsAre(w, child, 0, 1);
            w.ask("came", child);
            w.ask("order", child, HOME, 2, 1);
            w.ask("came", child);
            w.pass(1);
            w.refused(STATE, "came", child);
            w.pass(1);
            w.ask("place", child, home);
            w.ask("came", child);
            w.pass(1);
            visitsAre(w, child, 1, 1);
        });
    }

    private void pay() {
        promise(21, "Pays a home.", w -> {
            int home = w.open(0, 0, 1);
            int other = w.open(0, 0, 1);
            w.ask("pay", home, 7);
            w.ask("pay", home, 8);
            w.is(-15, "owed", home);
            w.is(0, "owed", other);
        });
        promise(21, "`money`: 1 to 100000", w -> {
            int home = w.open(0, 0, 1);
            w.range(1, 100000, 1, "pay", home, 1);
            w.is(-100001, "owed", home);
        });
        promise(21, "Returns what it is owed then.", w -> {
            int home = w.open(0, 0, 1);
            int child = w.kid(0, 0, 0, 0, 0);
            w.ask("place", child, home);
            w.is(-1, "pay", home, 1);
            w.pass(3);
            w.is(0, "pay", home, 29);
            w.is(-1, "pay", home, 1);
            w.pass(1);
            w.is(8, "pay", home, 1);
        });
        promise(21, "Throws `IndexOutOfBoundsException` if there is no such home", w -> {
            w.refused(INDEX, "pay", 0, 1);
            w.open(0, 0, 1);
            for (int no : World.noneOf(1)) {
                w.refused(INDEX, "pay", no, 1);
                w.refused(INDEX, "pay", no, 0);
            }
            w.refused(INDEX, "pay", 10, 1);
        });
        promise(21, "Throws `IllegalArgumentException` if money is out of range", w -> {
            int home = w.open(0, 0, 1);
            w.ask("pay", home, 5);
            for (int money : new int[] {0, -1, 100001, LEAST, MOST}) w.refused(ARGUMENT, "pay", home, money);
            w.is(-5, "owed", home);
        });
    }

    private void owed() {
        promise(22, "Returns what a home is owed.", w -> {
            int home = w.open(0, 0, 5);
            for (int kid = 0; kid < 5; kid++) {
                w.kid(6205, 15, kid, 0, 0);
                w.ask("place", kid, home);
            }
            w.is(0, "owed", home);
            w.pass(1);
            w.is(5 * (10 + 17 + 20), "owed", home);
        });
        promise(22, "Returns what a home is owed.", w -> {
            int home = w.open(0, 0, 1);
            int child = w.kid(0, 0, 0, 0, 0);
            w.ask("order", child, STAY, 7000, 7000);
            w.ask("place", child, home);
            w.pass(12000);
            int due = 0;
            for (int day = 0; day < 12000; day++) due += 10 + day / YEAR;
            w.is(due, "owed", home);
        });
        promise(22, "Throws `IndexOutOfBoundsException` if there is no such home", w -> {
            w.refused(INDEX, "owed", 0);
            w.open(0, 0, 1);
            for (int no : World.noneOf(1)) w.refused(INDEX, "owed", no);
            w.refused(INDEX, "owed", 10);
        });
    }

    private void handOver() {
        promise(23, "Hands a child over to a worker.", w -> {
            int child = w.ask("child", 0, 15, 0, 0, 0);
            w.ask("handOver", child, 4);
            w.is(4, "childIs", child, WORKER);
            w.is(6, "load", 4);
            w.is(0, "load", 0);
        });
        promise(23, "Returns the worker before.", w -> {
            int child = w.ask("child", 0, 0, 0, 0, 0);
            w.is(0, "handOver", child, 4);
            w.is(4, "handOver", child, 4);
            w.refused(INDEX, "handOver", child, 5);
            w.is(4, "handOver", child, 0);
            w.is(0, "childIs", child, WORKER);
        });
        promise(23, "Throws `IndexOutOfBoundsException` if there is no such child or worker", w -> {
            w.refused(INDEX, "handOver", 0, 0);
            int child = w.ask("child", 0, 0, 0, 0, 0);
            for (int no : World.noneOf(1)) w.refused(INDEX, "handOver", no, 0);
            for (int no : World.noneOf(5)) w.refused(INDEX, "handOver", child, no);
            w.refused(INDEX, "handOver", 16, 0);
            w.refused(INDEX, "handOver", -1, -1);
            w.is(0, "childIs", child, WORKER);
        });
    }

    private void load() {
        promise(24, "Returns the load of a worker.", w -> {
            for (int home = 0; home < 4; home++) w.open(0, 0, 5);
            w.is(0, "load", 0);
            for (int child = 0; child < 16; child++) {
                w.kid(3000, 15, child % 8, 0, 0);
                w.ask("handOver", child, 0);
                w.ask("place", child, child % 4);
            }
            w.is(16 * 9, "load", 0);
            for (int worker = 1; worker < 5; worker++) w.is(0, "load", worker);
        });
        promise(24, "Throws `IndexOutOfBoundsException` if there is no such worker", w -> {
            for (int no : World.noneOf(5)) w.refused(INDEX, "load", no);
            for (int worker = 0; worker < 5; worker++) w.is(0, "load", worker);
        });
    }

    private void pass() {
        promise(25, "Lets days pass.", w -> {
            int child = visited(w, 7);
            w.pass(400);
            w.is(9, "childIs", child, YEARS);
            visitsAre(w, child, 0, 57);
            w.is(40 * 100 + 285 * 8 + 115 * 9, "owed", 0);
        });
        promise(25, "`days`: 1 to 400", w -> {
            w.refused(ARGUMENT, "pass", 0);
            w.refused(ARGUMENT, "pass", 401);
            w.refused(ARGUMENT, "pass", LEAST);
            w.refused(ARGUMENT, "pass", MOST);
            w.is(1, "pass", 1);
            w.is(401, "pass", 400);
        });
        promise(25, "Returns the day then.", w -> {
            int day = 0;
            for (int days : new int[] {1, 2, 400, 399, 1}) {
                day += days;
                w.is(day, "pass", days);
            }
        });
    }

    private void passIsRefused() {
        promise(25, "Throws `IllegalArgumentException` if days is out of range", w -> {
            int child = visited(w, 1);
            for (int days : new int[] {0, -1, 401, LEAST, MOST}) w.refused(ARGUMENT, "pass", days);
            visitsAre(w, child, 0, 0);
            w.is(0, "owed", 0);
            w.is(1, "pass", 1);
        });
        promise(25, "Throws `IllegalStateException` if it would be above 12000", w -> {
            int child = w.ask("child", 0, 0, 0, 0, 0);
            w.pass(11999);
            w.refused(STATE, "pass", 2);
            w.refused(STATE, "pass", 400);
            w.refused(ARGUMENT, "pass", 401);
            w.is(12000, "pass", 1);
            w.refused(STATE, "pass", 1);
            w.refused(ARGUMENT, "pass", 0);
            w.refused(ARGUMENT, "order", child, CARE, 11999, 1);
            w.ask("order", child, CARE, 12000, 1);
            w.is(0, "counts", child, 12000);
        });
        promise(25, "Throws `IllegalStateException` if it would be above 12000", w -> {
            w.pass(11601);
            w.refused(STATE, "pass", 400);
            w.is(12000, "pass", 399);
        });
    }
}
