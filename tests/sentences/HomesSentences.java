/** Children and homes: promises 1 to 6, and what the terms say of them. */
final class HomesSentences extends Section {
    HomesSentences(Sheet sheet) {
        super(sheet);
    }

    @Override
    void all() {
        termsOfChildren();
        termsOfHomes();
        lastDays();
        inPlaceOfWhatWasToldBefore();
        daysAhead();
        severalOnOneDay();
        newObject();
        child();
        home();
        approve();
        train();
        rest();
    }

    private void termsOfChildren() {
        terms("Children are numbered from 0, at most 16", w -> {
            for (int number = 0; number < 16; number++) w.is(number, "child", 0, 0, 0, 0, 0);
            w.refused(STATE, "child", 0, 0, 0, 0, 0);
            w.is(0, "risk", 15);
            w.refused(INDEX, "risk", 16);
        });
        terms("a child is so many days old, 0 to 7000, when told", w -> {
            w.pass(100);
            w.range(0, 7000, 0, "child", 0, 0, 0, 0, 0);
            w.is(0, "childIs", 0, YEARS);
            w.is(19, "childIs", 1, YEARS);
            // 20 years are 7300 days.
            w.pass(299);
            w.is(19, "childIs", 1, YEARS);
            w.pass(1);
            w.is(20, "childIs", 1, YEARS);
            w.pass(64);
            w.is(0, "childIs", 0, YEARS);
            w.pass(1);
            w.is(1, "childIs", 0, YEARS);
        });
        terms("has a set of needs, of 4 kinds", w -> {
            int home = w.open(0, 0, 5);
            for (int needs : new int[] {0, 1, 2, 4, 8, 15}) w.kid(3000, needs, 0, 0, 0);
            w.refused(ARGUMENT, "child", 0, 16, 0, 0, 0);
            for (int kind = 0; kind < 4; kind++) {
                w.ask("train", home, 1 << kind, 9);
                for (int kid = 1; kid <= 4; kid++) w.is(kid == kind + 1 ? 0 : 4, "why", kid, home);
                w.is(0, "why", 0, home);
                w.is(4, "why", 5, home);
            }
        });
        terms("a family, 0 to 7, by which children are brothers and sisters", w -> {
            int home = w.open(0, 3, 5);
            int first = w.kid(7);
            int sister = w.kid(7);
            int other = w.kid(0);
            w.outside(0, 7, 2, "child", 0, 0, 0, 0, 0);
            w.ask("place", first, home);
            w.is(10, "worth", sister, home);
            w.is(0, "worth", other, home);
        });
        terms("a place, 0 to 50, where its school is", w -> {
            int home = w.open(0, 3, 5);
            w.range(0, 50, 3, "child", 0, 0, 0, 0, 0);
            w.is(0, "worth", 0, home);
            w.is(-10, "worth", 1, home);
        });
        terms("and a tongue, 0 to 3", w -> {
            w.range(0, 3, 4, "child", 0, 0, 0, 0, 0);
            for (int tongue = 0; tongue < 4; tongue++) w.ask("home", 0, tongue, 1);
            for (int home = 0; home < 4; home++) {
                w.is(home == 0 ? 6 : 0, "worth", 0, home);
                w.is(home == 3 ? 6 : 0, "worth", 1, home);
            }
        });
    }

    private void termsOfHomes() {
        terms("Homes are numbered from 0, at most 10", w -> {
            for (int number = 0; number < 10; number++) w.is(number, "home", 0, 0, 1);
            w.refused(STATE, "home", 0, 0, 1);
            w.is(0, "owed", 9);
            w.refused(INDEX, "owed", 10);
        });
        terms("a home has a place, 0 to 50, a tongue, and 1 to 5 beds", w -> {
            w.outside(0, 50, 0, "home", 0, 0, 1);
            w.outside(0, 3, 1, "home", 0, 0, 1);
            w.outside(1, 5, 2, "home", 0, 0, 1);
            int least = w.open(0, 0, 1);
            int most = w.open(50, 3, 5);
            for (int kid = 0; kid < 6; kid++) w.kid(3000, 0, kid, 50, 3);
            w.is(-10, "worth", 0, least);
            w.is(6, "worth", 0, most);
            for (int kid = 0; kid < 5; kid++) w.is(kid, "place", kid, most);
            w.is(6, "why", 5, most);
            w.is(5, "place", 5, least);
            w.is(6, "why", 0, least);
        });
        terms("for children from a least to a most age in years", w -> {
            int home = w.open(0, 0, 5);
            w.ask("approve", home, 5, 7, 9);
            int[] days = {5 * YEAR - 1, 5 * YEAR, 8 * YEAR - 1, 8 * YEAR};
            int[] due = {3, 0, 0, 3};
            for (int kid = 0; kid < 4; kid++) {
                w.kid(days[kid], 0, kid, 0, 0);
                w.is(due[kid], "why", kid, home);
            }
        });
    }

    private void lastDays() {
        terms("It may be approved from the day of now up to a day", w -> {
            int home = w.ask("home", 0, 0, 1);
            int kid = w.kid(0);
            w.pass(2);
            w.is(2, "why", kid, home);
            w.ask("approve", home, 0, 17, 4);
            w.is(0, "why", kid, home);
            w.pass(2);
            w.is(0, "why", kid, home);
            w.pass(1);
            w.is(2, "why", kid, home);
        });
        terms("and be trained for needs up to a day", w -> {
            int home = w.open(0, 0, 1);
            int kid = w.kid(3000, 8, 0, 0, 0);
            w.ask("train", home, 8, 4);
            w.pass(4);
            w.is(0, "why", kid, home);
            w.pass(1);
            w.is(4, "why", kid, home);
        });
        terms("and rest from a day up to another one, that last day with it for all three", w -> {
            int home = w.open(0, 0, 1);
            int kid = w.kid(0);
            w.ask("rest", home, 2, 4);
            int[] due = {0, 0, 5, 5, 5, 0};
            for (int bar : due) {
                w.is(bar, "why", kid, home);
                w.pass(1);
            }
        });
    }

    private void inPlaceOfWhatWasToldBefore() {
        String words = "each time that one of these is told, it is in place of what was told before, from the day of now on,"
            + " all of that with it";
        terms(words, w -> {
            int home = w.open(0, 0, 1);
            int kid = w.kid(10 * YEAR, 0, 0, 0, 0);
            w.pass(2);
            w.ask("approve", home, 11, 12, 3);
            w.is(3, "why", kid, home);
            w.pass(1);
            w.is(3, "why", kid, home);
            w.pass(1);
            w.is(2, "why", kid, home);
        });
        terms(words, w -> {
            int home = w.open(0, 0, 1);
            int kid = w.kid(3000, 1, 0, 0, 0);
            int other = w.kid(3000, 2, 0, 0, 0);
            w.pass(2);
            w.ask("train", home, 2, 3);
            w.is(4, "why", kid, home);
            w.is(0, "why", other, home);
            w.pass(2);
            w.is(4, "why", kid, home);
            w.is(4, "why", other, home);
        });
        terms(words, w -> {
            int home = w.open(0, 0, 1);
            int kid = w.kid(0);
            w.ask("rest", home, 1, 9);
            w.pass(2);
            w.is(5, "why", kid, home);
            w.ask("rest", home, 4, 5);
            int[] due = {0, 0, 5, 5, 0, 0};
            for (int bar : due) {
                w.is(bar, "why", kid, home);
                w.pass(1);
            }
        });
        terms(words, w -> {
            int home = w.open(0, 0, 1);
            int kid = w.kid(0);
            w.ask("rest", home, 20, 30);
            w.pass(1);
            w.ask("rest", home, 1, 1);
            w.pass(19);
            w.is(0, "why", kid, home);
        });
    }

    private void daysAhead() {
        String words = "what held on days ahead stays known";
        terms(words, w -> {
            int home = w.open(0, 0, 1);
            int kid = w.kid(10 * YEAR, 1, 0, 0, 0);
            w.pass(5);
            w.ask("place", kid, home);
            w.pass(1);
            w.ask("approve", home, 0, 17, 0);
            w.is(YES, "wasAllowed", 0);
            w.ask("approve", home, 0, 9, 20000);
            w.ask("train", home, 0, 20000);
            w.ask("rest", home, 6, 20000);
            w.is(YES, "wasAllowed", 0);
        });
        terms(words, w -> {
            int home = w.open(0, 0, 1);
            int kid = w.kid(10 * YEAR, 1, 0, 0, 0);
            w.pass(5);
            w.ask("place", kid, home);
            w.ask("approve", home, 0, 17, 4);
            w.pass(1);
            w.ask("approve", home, 0, 17, 20000);
            w.is(NO, "wasAllowed", 0);
        });
        terms(words, w -> {
            int home = w.open(0, 0, 1);
            int kid = w.kid(10 * YEAR, 1, 0, 0, 0);
            w.pass(5);
            w.ask("place", kid, home);
            w.ask("train", home, 14, 20000);
            w.pass(1);
            w.ask("train", home, 15, 20000);
            w.is(NO, "wasAllowed", 0);
        });
        terms(words, w -> {
            int home = w.open(0, 0, 1);
            int kid = w.kid(10 * YEAR, 1, 0, 0, 0);
            w.pass(5);
            w.ask("place", kid, home);
            w.ask("rest", home, 5, 20000);
            w.pass(1);
            w.ask("rest", home, 20000, 20000);
            w.is(NO, "wasAllowed", 0);
        });
    }

    private void severalOnOneDay() {
        String words = "of several told on one day the last one holds for all of that day";
        terms(words, w -> {
            int home = w.open(0, 0, 1);
            int kid = w.kid(10 * YEAR, 1, 0, 0, 0);
            w.pass(5);
            w.ask("place", kid, home);
            w.ask("approve", home, 11, 17, 9);
            w.is(NO, "wasAllowed", 0);
            w.ask("approve", home, 10, 10, 5);
            w.is(YES, "wasAllowed", 0);
            w.ask("approve", home, 10, 10, 4);
            w.is(NO, "wasAllowed", 0);
            w.is(2, "why", kid, home);
        });
        terms(words, w -> {
            int home = w.open(0, 0, 1);
            int kid = w.kid(10 * YEAR, 1, 0, 0, 0);
            w.pass(5);
            w.ask("place", kid, home);
            w.ask("train", home, 0, 9);
            w.is(NO, "wasAllowed", 0);
            w.ask("train", home, 1, 5);
            w.is(YES, "wasAllowed", 0);
            w.ask("train", home, 1, 4);
            w.is(NO, "wasAllowed", 0);
            w.is(4, "why", kid, home);
        });
        terms(words, w -> {
            int home = w.open(0, 0, 1);
            int kid = w.kid(10 * YEAR, 1, 0, 0, 0);
            w.pass(5);
            w.ask("place", kid, home);
            w.ask("rest", home, 5, 5);
            w.is(NO, "wasAllowed", 0);
            w.ask("rest", home, 6, 9);
            w.is(YES, "wasAllowed", 0);
            w.is(0, "why", kid, home);
            w.ask("rest", home, 5, 9);
            w.ask("rest", home, 7, 7);
            w.pass(1);
            w.is(0, "why", kid, home);
            w.pass(1);
            w.is(5, "why", kid, home);
        });
    }

    private void newObject() {
        promise(1, "`FosterHouse()`: No children, homes, orders.", w -> {
            w.refused(INDEX, "childIs", 0, 0);
            w.refused(INDEX, "owed", 0);
            w.refused(INDEX, "stay", 0, 0);
            for (int worker = 0; worker < 5; worker++) w.is(0, "load", worker);
            for (int family = 0; family < 8; family++) w.is(0, "placeAll", family);
            w.is(0, "child", 0, 0, 0, 0, 0);
            w.is(NONE, "best", 0);
            w.is(0, "home", 0, 0, 1);
            w.is(0, "order", 0, CARE, 0, 1);
        });
    }

    private void child() {
        promise(2, "Tells a child.", w -> {
            w.is(0, "child", 1000, 0, 0, 0, 0);
            int[] due = {NONE, 2, 0, 0, 0, 0, 0};
            for (int what = 0; what < 7; what++) w.is(due[what], "childIs", 0, what);
        });
        promise(2, "`days`: 0 to 7000: its age", w -> {
            w.range(0, 7000, 0, "child", 0, 0, 0, 0, 0);
            w.is(0, "childIs", 0, YEARS);
            w.is(19, "childIs", 1, YEARS);
        });
        promise(2, "`needs`: 0 to 15: a set", w -> {
            w.range(0, 15, 1, "child", 0, 0, 0, 0, 0);
            w.is(2, "load", 0);
            w.is(6, "load", 1);
        });
        promise(2, "`family`: 0 to 7", w -> {
            w.range(0, 7, 2, "child", 0, 0, 0, 0, 0);
            w.open(0, 0, 2);
            for (int kid = 0; kid < 2; kid++) w.ask("order", kid, CARE, 0, 1);
            for (int family = 0; family < 8; family++) w.is(family == 0 || family == 7 ? 1 : 0, "placeAll", family);
        });
        promise(2, "`place`: 0 to 50", w -> {
            w.range(0, 50, 3, "child", 0, 0, 0, 0, 0);
            int home = w.open(50, 1, 1);
            w.is(-10, "worth", 0, home);
            w.is(0, "worth", 1, home);
        });
        promise(2, "`tongue`: 0 to 3", w -> {
            w.range(0, 3, 4, "child", 0, 0, 0, 0, 0);
            int home = w.open(0, 3, 1);
            w.is(0, "worth", 0, home);
            w.is(6, "worth", 1, home);
        });
        promise(2, "Returns its number.", w -> {
            w.is(0, "child", 0, 0, 0, 0, 0);
            w.refused(ARGUMENT, "child", -1, 0, 0, 0, 0);
            w.ask("home", 0, 0, 1);
            w.is(1, "child", 0, 0, 0, 0, 0);
        });
        promise(2, "Throws `IllegalArgumentException` if an argument is out of range", w -> {
            int[] fine = {0, 0, 0, 0, 0};
            int[] most = {7000, 15, 7, 50, 3};
            for (int at = 0; at < 5; at++) w.outside(0, most[at], at, "child", fine);
            for (int at = 0; at < 5; at++) w.outside(0, most[at], at, "child", most);
            w.refused(ARGUMENT, "child", -1, 16, -1, 51, -1);
        });
        promise(2, "Throws `IllegalStateException` if there are 16", w -> {
            for (int number = 0; number < 15; number++) w.ask("child", 0, 15, 0, 0, 0);
            w.is(15, "child", 0, 0, 0, 0, 0);
            w.refused(STATE, "child", 0, 0, 0, 0, 0);
            w.refused(STATE, "child", 7000, 15, 7, 50, 3);
            w.refused(ARGUMENT, "child", 0, 16, 0, 0, 0);
            int[] loads = {20, 18, 18, 18, 18};
            for (int worker = 0; worker < 5; worker++) w.is(loads[worker], "load", worker);
        });
    }

    private void home() {
        promise(3, "Tells a home, which is neither approved nor trained, and does not rest.", w -> {
            w.is(0, "home", 0, 0, 1);
            int plain = w.kid(3000, 0, 0, 0, 0);
            int needy = w.kid(3000, 1, 0, 0, 0);
            w.is(2, "why", plain, 0);
            w.ask("approve", 0, 0, 17, 0);
            w.is(4, "why", needy, 0);
            w.is(0, "why", plain, 0);
        });
        promise(3, "`place`: 0 to 50", w -> {
            w.range(0, 50, 0, "home", 0, 0, 1);
            int kid = w.kid(3000, 0, 0, 50, 1);
            w.is(-10, "worth", kid, 0);
            w.is(0, "worth", kid, 1);
        });
        promise(3, "`tongue`: 0 to 3", w -> {
            w.range(0, 3, 1, "home", 0, 0, 1);
            int kid = w.kid(3000, 0, 0, 0, 3);
            w.is(0, "worth", kid, 0);
            w.is(6, "worth", kid, 1);
        });
        promise(3, "`beds`: 1 to 5", w -> {
            w.range(1, 5, 2, "home", 0, 0, 1);
            for (int home = 0; home < 2; home++) w.ask("approve", home, 0, 17, 0);
            for (int kid = 0; kid < 7; kid++) w.kid(3000, 0, kid, 0, 0);
            for (int kid = 0; kid < 5; kid++) w.ask("place", kid, 1);
            w.is(6, "why", 5, 1);
            w.ask("place", 5, 0);
            w.is(6, "why", 6, 0);
        });
        promise(3, "Returns its number.", w -> {
            w.is(0, "home", 0, 0, 1);
            w.refused(ARGUMENT, "home", 0, 0, 0);
            w.ask("child", 0, 0, 0, 0, 0);
            w.is(1, "home", 0, 0, 1);
        });
        promise(3, "Throws `IllegalArgumentException` if an argument is out of range", w -> {
            int[] least = {0, 0, 1};
            int[] most = {50, 3, 5};
            for (int at = 0; at < 3; at++) w.outside(least[at], most[at], at, "home", least);
            for (int at = 0; at < 3; at++) w.outside(least[at], most[at], at, "home", most);
            w.refused(ARGUMENT, "home", -1, 4, 0);
        });
        promise(3, "Throws `IllegalStateException` if there are 10", w -> {
            for (int number = 0; number < 9; number++) w.ask("home", 0, 0, 1);
            w.is(9, "home", 0, 0, 1);
            w.refused(STATE, "home", 0, 0, 1);
            w.refused(STATE, "home", 50, 3, 5);
            w.refused(ARGUMENT, "home", 0, 0, 6);
        });
    }

    private void approve() {
        promise(4, "Approves a home from today on.", w -> {
            int home = w.ask("home", 0, 0, 1);
            int other = w.ask("home", 0, 0, 1);
            int kid = w.kid(0);
            w.pass(3);
            w.is(2, "why", kid, home);
            w.ask("approve", home, 0, 17, 20000);
            w.is(0, "why", kid, home);
            w.is(2, "why", kid, other);
        });
        promise(4, "`least`: 0 to 17: years", w -> {
            int home = w.ask("home", 0, 0, 1);
            w.range(0, 17, 1, "approve", home, 0, 17, 9);
            int young = w.kid(17 * YEAR - 1, 0, 0, 0, 0);
            int old = w.kid(17 * YEAR, 0, 0, 0, 0);
            int born = w.kid(0, 0, 0, 0, 0);
            w.is(3, "why", young, home);
            w.is(0, "why", old, home);
            w.ask("approve", home, 0, 17, 9);
            w.is(0, "why", born, home);
        });
        promise(4, "`most`: least to 17", w -> {
            int home = w.ask("home", 0, 0, 1);
            w.range(5, 17, 2, "approve", home, 5, 5, 9);
            int last = w.kid(18 * YEAR - 1, 0, 0, 0, 0);
            int grown = w.kid(18 * YEAR, 0, 0, 0, 0);
            int five = w.kid(6 * YEAR - 1, 0, 0, 0, 0);
            int six = w.kid(6 * YEAR, 0, 0, 0, 0);
            w.is(0, "why", last, home);
            w.is(3, "why", grown, home);
            w.ask("approve", home, 5, 5, 9);
            w.is(0, "why", five, home);
            w.is(3, "why", six, home);
        });
        promise(4, "`until`: a day; one ahead of now: it is not approved any more", w -> {
            int home = w.ask("home", 0, 0, 1);
            int kid = w.kid(0);
            w.pass(5);
            w.outside(0, 20000, 3, "approve", home, 0, 17, 0);
            w.ask("approve", home, 0, 17, 20000);
            w.is(0, "why", kid, home);
            w.ask("approve", home, 0, 17, 4);
            w.is(2, "why", kid, home);
            w.ask("approve", home, 0, 17, 5);
            w.is(0, "why", kid, home);
            w.pass(1);
            w.is(2, "why", kid, home);
            w.ask("approve", home, 0, 17, 20000);
            w.ask("approve", home, 0, 17, 0);
            w.is(2, "why", kid, home);
            w.pass(1);
            w.is(2, "why", kid, home);
        });
        promise(4, "Throws `IndexOutOfBoundsException` if there is no such home", w -> {
            w.refused(INDEX, "approve", 0, 0, 17, 9);
            w.ask("home", 0, 0, 1);
            for (int no : World.noneOf(1)) {
                w.refused(INDEX, "approve", no, 0, 17, 9);
                w.refused(INDEX, "approve", no, 5, 4, 20001);
            }
            w.refused(INDEX, "approve", 10, 0, 17, 9);
        });
        promise(4, "Throws `IllegalArgumentException` if least, most or until is out of range, which is 0 to 20000", w -> {
            int home = w.open(0, 0, 1);
            w.outside(0, 17, 1, "approve", home, 0, 17, 9);
            w.outside(0, 17, 2, "approve", home, 0, 17, 9);
            w.outside(17, 17, 2, "approve", home, 17, 17, 9);
            w.outside(0, 20000, 3, "approve", home, 0, 17, 9);
            w.refused(ARGUMENT, "approve", home, 18, 18, 9);
            w.refused(ARGUMENT, "approve", home, 1, 0, 9);
        });
        promise(4, "if least, most or until is out of range, which is 0 to 20000", w -> {
            int home = w.ask("home", 0, 0, 1);
            int kid = w.kid(0, 0, 0, 0, 0);
            w.ask("approve", home, 0, 0, 0);
            w.is(0, "why", kid, home);
            w.pass(1);
            w.is(2, "why", kid, home);
            w.ask("approve", home, 0, 17, 20000);
            w.pass(6000);
            w.is(0, "why", kid, home);
        });
    }

    private void train() {
        promise(5, "Trains a home from today on.", w -> {
            int home = w.open(0, 0, 1);
            w.ask("train", home, 0, 20000);
            int kid = w.kid(3000, 1, 0, 0, 0);
            w.pass(3);
            w.is(4, "why", kid, home);
            w.ask("train", home, 1, 20000);
            w.is(0, "why", kid, home);
        });
        promise(5, "`needs`: 0 to 15: a set", w -> {
            int home = w.open(0, 0, 1);
            int needy = w.kid(3000, 15, 0, 0, 0);
            int plain = w.kid(3000, 0, 0, 0, 0);
            w.range(0, 15, 1, "train", home, 0, 9);
            w.is(0, "why", needy, home);
            w.ask("train", home, 14, 9);
            w.is(4, "why", needy, home);
            w.ask("train", home, 0, 9);
            w.is(4, "why", needy, home);
            w.is(0, "why", plain, home);
        });
        promise(5, "`until`: 0 to 20000", w -> {
            int home = w.open(0, 0, 1);
            int kid = w.kid(3000, 1, 0, 0, 0);
            w.range(0, 20000, 2, "train", home, 1, 9);
            w.is(0, "why", kid, home);
            w.ask("train", home, 1, 0);
            w.is(0, "why", kid, home);
            w.pass(1);
            w.is(4, "why", kid, home);
            w.ask("train", home, 1, 20000);
            w.is(0, "why", kid, home);
            w.ask("train", home, 1, 0);
            w.is(4, "why", kid, home);
        });
        promise(5, "Throws `IndexOutOfBoundsException` if there is no such home", w -> {
            w.refused(INDEX, "train", 0, 0, 9);
            w.ask("home", 0, 0, 1);
            for (int no : World.noneOf(1)) {
                w.refused(INDEX, "train", no, 0, 9);
                w.refused(INDEX, "train", no, 16, 20001);
            }
            w.refused(INDEX, "train", 10, 0, 9);
        });
        promise(5, "Throws `IllegalArgumentException` if needs or until is out of range", w -> {
            int home = w.open(0, 0, 1);
            w.kid(3000, 15, 0, 0, 0);
            w.outside(0, 15, 1, "train", home, 0, 9);
            w.outside(0, 20000, 2, "train", home, 0, 9);
            w.refused(ARGUMENT, "train", home, 16, -1);
        });
    }

    private void rest() {
        promise(6, "Lets a home rest.", w -> {
            int home = w.open(0, 0, 2);
            int other = w.open(0, 0, 2);
            int kid = w.kid(0);
            w.ask("rest", home, 0, 0);
            w.is(5, "why", kid, home);
            w.is(0, "why", kid, other);
            w.pass(1);
            w.is(0, "why", kid, home);
        });
        promise(6, "`from`: today, or a day behind it, to 20000", w -> {
            int home = w.open(0, 0, 2);
            int kid = w.kid(0);
            w.pass(5);
            w.outside(5, 20000, 1, "rest", home, 5, 20000);
            w.ask("rest", home, 20000, 20000);
            w.is(0, "why", kid, home);
            w.ask("rest", home, 6, 20000);
            w.is(0, "why", kid, home);
            w.pass(1);
            w.is(5, "why", kid, home);
            w.ask("rest", home, 6, 20000);
            w.is(5, "why", kid, home);
            w.refused(ARGUMENT, "rest", home, 5, 20000);
        });
        promise(6, "`until`: from to 20000", w -> {
            int home = w.open(0, 0, 2);
            int kid = w.kid(0);
            w.outside(3, 20000, 2, "rest", home, 3, 9);
            w.ask("rest", home, 3, 20000);
            w.ask("rest", home, 3, 3);
            int[] due = {0, 0, 0, 5, 0};
            for (int bar : due) {
                w.is(bar, "why", kid, home);
                w.pass(1);
            }
        });
        promise(6, "Throws `IndexOutOfBoundsException` if there is no such home", w -> {
            w.refused(INDEX, "rest", 0, 0, 9);
            w.ask("home", 0, 0, 1);
            for (int no : World.noneOf(1)) {
                w.refused(INDEX, "rest", no, 0, 9);
                w.refused(INDEX, "rest", no, 9, 8);
            }
            w.refused(INDEX, "rest", 10, 0, 9);
        });
        promise(6, "Throws `IllegalArgumentException` if from or until is out of range", w -> {
            int home = w.open(0, 0, 2);
            w.kid(0);
            w.pass(2);
            w.refused(ARGUMENT, "rest", home, 1, 9);
            w.refused(ARGUMENT, "rest", home, 20001, 20001);
            w.refused(ARGUMENT, "rest", home, 2, 20001);
            w.refused(ARGUMENT, "rest", home, 3, 2);
            w.refused(ARGUMENT, "rest", home, LEAST, MOST);
        });
    }
}
