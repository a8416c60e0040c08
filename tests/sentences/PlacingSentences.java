/** Placing: promises 14 to 18, and what the terms say of it. */
final class PlacingSentences extends Section {
    PlacingSentences(Sheet sheet) {
        super(sheet);
    }

    @Override
    void all() {
        inThisOrder();
        firstBars();
        lastBars();
        whileInAHome();
        termsOfWorth();
        termsOfBest();
        whoIsPlacedAtOnce();
        howManyAtOnce();
        whichWayIsTaken();
        whichOfEqualWays();
        why();
        worth();
        best();
        place();
        placeAll();
        placeAllRefused();
    }

    private static void homesAre(World w, int... homes) {
        for (int child = 0; child < homes.length; child++) w.is(homes[child], "childIs", child, ITS_HOME);
    }

    private void inThisOrder() {
        terms("A child may be placed in a home on a day, if, in this order", w -> {
            int home = w.open(0, 0, 1);
            int guest = w.kid(1);
            w.ask("place", guest, home);
            int child = w.ask("child", 13 * YEAR, 3, 0, 0, 0);
            w.ask("wish", child, home, NO);
            w.ask("rest", home, 0, 9);
            w.ask("train", home, 1, 20000);
            w.ask("approve", home, 14, 17, 0);
            w.pass(1);
            w.is(1, "why", child, home);
            w.ask("order", child, CARE, 1, 100);
            w.is(2, "why", child, home);
            w.ask("approve", home, 14, 17, 20000);
            w.is(3, "why", child, home);
            w.ask("approve", home, 13, 13, 20000);
            w.is(4, "why", child, home);
            w.ask("train", home, 3, 20000);
            w.is(5, "why", child, home);
            w.ask("rest", home, 20000, 20000);
            w.is(6, "why", child, home);
            w.ask("order", guest, HOME, 2, 1);
            w.pass(1);
            w.is(7, "why", child, home);
            w.ask("wish", child, home, YES);
            w.is(0, "why", child, home);
            w.is(0, "stay", 0, OF_CHILD);
        });
    }

    private void firstBars() {
        terms("1 CARE counts", w -> {
            int home = w.open(0, 0, 1);
            int child = w.ask("child", 3000, 0, 0, 0, 0);
            w.ask("order", child, CARE, 1, 4);
            w.ask("order", child, STAY, 2, 1);
            w.ask("order", child, HOME, 3, 1);
            int[] due = {1, 0, 1, 1, 0, 1};
            for (int bar : due) {
                w.is(bar, "why", child, home);
                w.pass(1);
            }
        });
        terms("2 the home is approved", w -> {
            int home = w.ask("home", 0, 0, 1);
            int child = w.kid(0);
            w.is(2, "why", child, home);
            w.ask("approve", home, 0, 17, 1);
            int[] due = {0, 0, 2};
            for (int bar : due) {
                w.is(bar, "why", child, home);
                w.pass(1);
            }
        });
        terms("3 the age of the child, in whole years, is within", w -> {
            int home = w.open(0, 0, 1);
            int child = w.kid(9 * YEAR - 1, 0, 0, 0, 0);
            w.ask("approve", home, 9, 9, 20000);
            w.is(3, "why", child, home);
            w.pass(1);
            w.is(0, "why", child, home);
            w.pass(364);
            w.is(0, "why", child, home);
            w.pass(1);
            w.is(3, "why", child, home);
        });
        terms("4 it is trained for all its needs", w -> {
            int home = w.open(0, 0, 1);
            int none = w.kid(3000, 0, 0, 0, 0);
            int two = w.kid(3000, 5, 0, 0, 0);
            int all = w.kid(3000, 15, 0, 0, 0);
            int[] trained = {0, 1, 4, 10, 5, 7, 15};
            int[] due = {4, 4, 4, 4, 0, 0, 0};
            for (int i = 0; i < trained.length; i++) {
                w.ask("train", home, trained[i], 20000);
                w.is(0, "why", none, home);
                w.is(due[i], "why", two, home);
                w.is(trained[i] == 15 ? 0 : 4, "why", all, home);
            }
        });
        terms("5 it does not rest", w -> {
            int home = w.open(0, 0, 1);
            int child = w.kid(0);
            w.ask("rest", home, 1, 2);
            int[] due = {0, 5, 5, 0};
            for (int bar : due) {
                w.is(bar, "why", child, home);
                w.pass(1);
            }
        });
    }

    private void lastBars() {
        terms("6 a bed is free, the child's own one there not counted as taken", w -> {
            int home = w.open(0, 0, 2);
            for (int kid = 0; kid < 3; kid++) w.kid(kid);
            w.ask("place", 0, home);
            w.is(0, "why", 1, home);
            w.ask("place", 1, home);
            w.is(6, "why", 2, home);
            w.is(0, "why", 0, home);
            w.is(0, "why", 1, home);
            w.ask("order", 0, HOME, 1, 1);
            w.pass(1);
            w.is(0, "why", 2, home);
        });
        terms("7 the child did not wish not to be there, when it was 12 years old or more.", w -> {
            int home = w.open(0, 0, 1);
            int young = w.kid(12 * YEAR - 1, 0, 0, 0, 0);
            int old = w.kid(12 * YEAR, 0, 0, 0, 0);
            w.ask("wish", young, home, NO);
            w.ask("wish", old, home, NO);
            w.is(0, "why", young, home);
            w.is(7, "why", old, home);
            w.pass(1);
            w.is(0, "why", young, home);
            w.is(7, "why", old, home);
            w.pass(400);
            w.is(0, "why", young, home);
            w.is(7, "why", old, home);
        });
        terms("7 the child did not wish not to be there, when it was 12 years old or more.", w -> {
            int home = w.open(0, 0, 1);
            int other = w.open(0, 0, 1);
            int child = w.kid(17 * YEAR, 0, 0, 0, 0);
            int sister = w.kid(17 * YEAR, 0, 0, 0, 0);
            w.ask("wish", child, home, NO);
            w.is(0, "why", child, other);
            w.is(0, "why", sister, home);
            w.ask("wish", sister, home, YES);
            w.is(0, "why", sister, home);
        });
    }

    private void whileInAHome() {
        terms("A child that is in a home is not looked at again for that each day", w -> {
            int home = w.open(0, 0, 1);
            int child = w.kid(13 * YEAR - 1, 1, 0, 0, 0);
            w.ask("place", child, home);
            w.ask("approve", home, 0, 12, 2);
            w.ask("train", home, 0, 20000);
            w.ask("rest", home, 1, 20000);
            w.ask("wish", child, home, NO);
            w.pass(400);
            w.is(home, "childIs", child, ITS_HOME);
            w.is(NONE, "stay", 0, ENDED);
            w.is(2, "why", child, home);
        });
        terms("but on a day on which CARE no longer counts, nor STAY, it goes back", w -> {
            int home = w.open(0, 0, 1);
            int child = w.ask("child", 3000, 0, 0, 0, 0);
            w.ask("order", child, CARE, 0, 3);
            w.ask("place", child, home);
            w.pass(2);
            w.is(home, "childIs", child, ITS_HOME);
            w.pass(1);
            w.is(NONE, "childIs", child, ITS_HOME);
            w.is(3, "stay", 0, ENDED);
        });
        terms("but on a day on which CARE no longer counts, nor STAY, it goes back", w -> {
            int home = w.open(0, 0, 1);
            int child = w.ask("child", 3000, 0, 0, 0, 0);
            w.ask("order", child, CARE, 0, 3);
            w.ask("order", child, STAY, 3, 2);
            w.ask("place", child, home);
            w.pass(4);
            w.is(home, "childIs", child, ITS_HOME);
            w.pass(1);
            w.is(5, "stay", 0, ENDED);
        });
        terms("but on a day on which CARE no longer counts, nor STAY, it goes back", w -> {
            int home = w.open(0, 0, 1);
            int child = w.ask("child", 3000, 0, 0, 0, 0);
            w.ask("order", child, CARE, 0, 3);
            w.ask("order", child, CARE, 4, 20);
            w.ask("place", child, home);
            w.pass(10);
            w.is(3, "stay", 0, ENDED);
            w.is(NONE, "childIs", child, ITS_HOME);
        });
    }

    private void termsOfWorth() {
        terms("The worth of a home for a child: 10 for each brother or sister who is there", w -> {
            int home = w.open(0, 1, 5);
            int other = w.open(0, 1, 5);
            for (int kid = 0; kid < 4; kid++) w.kid(kid == 3 ? 1 : 0);
            for (int kid = 0; kid < 4; kid++) {
                int[] due = {0, 10, 20, 0};
                w.is(due[kid], "worth", kid, home);
                w.is(0, "worth", kid, other);
                w.ask("place", kid, home);
            }
            int[] due = {20, 20, 20, 0};
            for (int kid = 0; kid < 4; kid++) w.is(due[kid], "worth", kid, home);
            w.ask("order", 0, HOME, 1, 1);
            w.pass(1);
            w.is(10, "worth", 1, home);
        });
        terms("6 if the tongue is the same", w -> {
            for (int tongue = 0; tongue < 4; tongue++) {
                w.ask("child", 0, 0, 0, 0, tongue);
                w.ask("home", 0, tongue, 1);
            }
            for (int child = 0; child < 4; child++) {
                for (int home = 0; home < 4; home++) w.is(child == home ? 6 : 0, "worth", child, home);
            }
        });
        terms("8 if the child wished to be there, less 8, if not to be there, at whatever age", w -> {
            int home = w.ask("home", 0, 1, 1);
            for (int days : new int[] {0, 12 * YEAR - 1, 12 * YEAR, 7000}) {
                int child = w.ask("child", days, 0, 0, 0, 0);
                w.ask("wish", child, home, YES);
                w.is(8, "worth", child, home);
                w.ask("wish", child, home, NO);
                w.is(-8, "worth", child, home);
            }
        });
        terms("less the distance of both places by 5, rounded down", w -> {
            int[] far = {0, 4, 5, 9, 10, 49, 50};
            int[] due = {0, 0, 1, 1, 2, 9, 10};
            int first = w.ask("child", 0, 0, 0, 0, 0);
            int last = w.ask("child", 0, 0, 0, 50, 0);
            for (int i = 0; i < far.length; i++) {
                int home = w.ask("home", far[i], 1, 1);
                w.is(-due[i], "worth", first, home);
                w.is(-((50 - far[i]) / 5), "worth", last, home);
            }
        });
    }

    private void termsOfBest() {
        terms("The best home is that with the greatest worth of those in which it may be placed, of several the lowest.", w -> {
            w.ask("home", 0, 0, 1);
            w.open(50, 1, 1);
            w.open(49, 1, 1);
            w.open(45, 1, 1);
            int child = w.kid(0);
            w.is(6, "worth", child, 0);
            // -10, -9 and -9: below 0 all, the greatest one twice.
            w.is(2, "best", child);
            w.ask("wish", child, 3, YES);
            w.is(3, "best", child);
            w.ask("approve", 0, 0, 17, 20000);
            w.is(0, "best", child);
        });
        terms("of several the lowest", w -> {
            for (int home = 0; home < 10; home++) w.open(0, 0, 1);
            int child = w.kid(0);
            w.is(0, "best", child);
            w.ask("place", child, 4);
            w.is(0, "best", child);
            for (int home = 0; home < 9; home++) w.ask("rest", home, 0, 9);
            w.is(9, "best", child);
        });
    }

    private void whoIsPlacedAtOnce() {
        String words = "Children of one family can be placed at once: all that are in no home, and for which CARE counts: each"
            + " in a home in which it may be placed, with the beds of all";
        terms(words, w -> {
            int home = w.open(0, 0, 5);
            int other = w.open(0, 0, 5);
            int inHome = w.kid(3);
            w.ask("place", inHome, other);
            for (int kind : new int[] {STAY, HOME, CARE}) w.ask("order", w.ask("child", 3000, 0, 3, 0, 0), kind, 0, 9);
            w.ask("order", w.ask("child", 3000, 0, 3, 0, 0), CARE, 1, 9);
            w.kid(2);
            w.is(1, "placeAll", 3);
            homesAre(w, other, NONE, NONE, other, NONE, NONE);
            w.is(0, "why", 3, home);
        });
        terms(words, w -> {
            for (int home = 0; home < 6; home++) w.open(0, 0, 1);
            int child = w.kid(13 * YEAR, 1, 0, 0, 0);
            int stranger = w.kid(1);
            w.ask("approve", 0, 0, 17, 0);
            w.ask("approve", 1, 14, 17, 20000);
            w.ask("train", 2, 14, 20000);
            w.ask("rest", 3, 0, 9);
            w.ask("place", stranger, 4);
            w.ask("wish", child, 5, NO);
            w.pass(1);
            for (int home = 0; home < 6; home++) w.is(home + 2, "why", child, home);
            w.is(0, "placeAll", 0);
            w.is(NONE, "childIs", child, ITS_HOME);
            w.ask("wish", child, 5, YES);
            w.is(1, "placeAll", 0);
            w.is(5, "childIs", child, ITS_HOME);
        });
        terms(words, w -> {
            int home = w.open(0, 0, 3);
            int stranger = w.kid(1);
            w.ask("place", stranger, home);
            for (int kid = 0; kid < 3; kid++) w.kid(0);
            w.is(2, "placeAll", 0);
            homesAre(w, home, home, home, NONE);
            w.is(0, "placeAll", 0);
        });
    }

    private void howManyAtOnce() {
        terms("as many as can be are placed", w -> {
            w.open(0, 0, 1);
            w.open(50, 1, 1);
            w.ask("train", 1, 0, 20000);
            w.kid(3000, 0, 0, 0, 0);
            w.kid(3000, 1, 0, 0, 0);
            // The first child would have the near home of its tongue, which is the only one for the second child.
            w.is(2, "placeAll", 0);
            homesAre(w, 1, 0);
        });
        terms("as many as can be are placed", w -> {
            w.open(0, 0, 4);
            for (int home = 1; home < 4; home++) w.open(50, 1, 1);
            for (int home = 0; home < 4; home++) w.ask("train", home, 1 << home, 20000);
            for (int need = 3; need >= 0; need--) w.kid(3000, 1 << need, 0, 0, 0);
            w.is(4, "placeAll", 0);
            homesAre(w, 3, 2, 1, 0);
        });
        terms("as many as can be are placed", w -> {
            for (int home = 0; home < 10; home++) w.open(5 * home, 0, 1);
            for (int home = 0; home < 5; home++) w.ask("rest", home, 0, 0);
            for (int kid = 0; kid < 5; kid++) w.kid(0);
            w.is(5, "placeAll", 0);
            homesAre(w, 5, 6, 7, 8, 9);
        });
    }

    private void whichWayIsTaken() {
        terms("of these ways the one with the fewest unlike homes for those who are placed", w -> {
            w.open(0, 0, 1);
            w.open(0, 0, 1);
            w.open(50, 1, 2);
            for (int kid = 0; kid < 2; kid++) {
                w.kid(0);
                w.ask("wish", kid, 2, NO);
            }
            w.is(2, "placeAll", 0);
            homesAre(w, 2, 2);
        });
        terms("of these ways the one with the fewest unlike homes for those who are placed", w -> {
            w.open(0, 0, 2);
            w.open(50, 1, 2);
            int there = w.kid(0);
            w.ask("place", there, 0);
            w.kid(0);
            w.kid(0);
            // The sister's home has one bed, so both together are better than one with her.
            w.is(2, "placeAll", 0);
            homesAre(w, 0, 1, 1);
        });
        terms("of these ways the one with the fewest unlike homes for those who are placed", w -> {
            w.open(0, 0, 1);
            w.open(0, 0, 2);
            w.open(0, 0, 3);
            for (int kid = 0; kid < 5; kid++) w.kid(0);
            w.is(5, "placeAll", 0);
            homesAre(w, 1, 1, 2, 2, 2);
        });
        terms("then with the greatest sum of worths", w -> {
            w.open(0, 0, 1);
            w.open(0, 1, 1);
            w.kid(3000, 0, 0, 0, 1);
            w.kid(3000, 0, 0, 0, 0);
            w.is(2, "placeAll", 0);
            homesAre(w, 1, 0);
        });
        terms("then with the greatest sum of worths", w -> {
            w.open(20, 1, 1);
            w.open(40, 1, 1);
            w.kid(3000, 0, 0, 25, 0);
            w.kid(3000, 0, 0, 0, 0);
            // The lower child would take home 0 for -1 and leave -8; -3 and -4 are more.
            w.is(2, "placeAll", 0);
            homesAre(w, 1, 0);
        });
        terms("then with the greatest sum of worths", w -> {
            w.open(5, 0, 1);
            for (int home = 1; home < 9; home++) w.open(50, 0, 1);
            w.open(4, 0, 1);
            w.kid(0);
            // The highest home is worth 1 more than the lowest one.
            w.is(1, "placeAll", 0);
            homesAre(w, 9);
        });
        terms("then with the greatest sum of worths", w -> {
            w.open(0, 0, 5);
            for (int home = 1; home < 9; home++) w.open(50, 0, 5);
            w.open(4, 0, 5);
            for (int kid = 0; kid < 4; kid++) w.kid(0);
            w.kid(3000, 0, 0, 5, 0);
            w.is(5, "placeAll", 0);
            homesAre(w, 9, 9, 9, 9, 9);
        });
        terms("those counted that are there ahead", w -> {
            w.open(0, 0, 3);
            w.open(0, 1, 3);
            int there = w.kid(0);
            w.ask("place", there, 1);
            w.kid(0);
            w.kid(0);
            // 20 for the sister who is there, 12 for the tongue.
            w.is(2, "placeAll", 0);
            homesAre(w, 1, 1, 1);
        });
        terms("those counted that are there ahead", w -> {
            w.open(0, 0, 3);
            w.open(0, 1, 3);
            for (int kid = 0; kid < 4; kid++) w.kid(3000, 0, 0, 0, kid / 2);
            // Two and two have their tongue; three and one would win, if those placed just now were counted.
            w.is(4, "placeAll", 0);
            homesAre(w, 0, 0, 1, 1);
        });
    }

    private void whichOfEqualWays() {
        String words = "of several the one in which the lowest child has the lowest home, none being above all, then the next,"
            + " and so on";
        terms(words, w -> {
            for (int home = 0; home < 3; home++) w.open(0, 0, 1);
            for (int kid = 0; kid < 4; kid++) w.kid(0);
            w.is(3, "placeAll", 0);
            homesAre(w, 0, 1, 2, NONE);
        });
        terms(words, w -> {
            w.open(0, 0, 2);
            w.open(0, 0, 3);
            for (int kid = 0; kid < 4; kid++) w.kid(0);
            w.is(4, "placeAll", 0);
            homesAre(w, 0, 0, 1, 1);
        });
        terms(words, w -> {
            w.open(0, 0, 1);
            w.open(0, 0, 1);
            for (int kid = 0; kid < 2; kid++) w.kid(13 * YEAR, 0, 0, 0, 0);
            w.ask("wish", 0, 0, NO);
            w.ask("wish", 1, 0, NO);
            // The single bed that is left goes to the lower child, though its home is the highest one.
            w.is(1, "placeAll", 0);
            homesAre(w, 1, NONE);
        });
        terms(words, w -> {
            for (int home = 0; home < 10; home++) w.open(0, 0, 5);
            for (int kid = 0; kid < 5; kid++) w.kid(0);
            w.is(5, "placeAll", 0);
            homesAre(w, 0, 0, 0, 0, 0);
        });
        terms(words, w -> {
            w.open(0, 0, 2);
            w.open(0, 0, 2);
            w.open(0, 0, 2);
            for (int kid = 0; kid < 4; kid++) w.kid(13 * YEAR, 0, 0, 0, 0);
            w.ask("wish", 1, 0, NO);
            // Worths beside: the second one is not in home 0, the others are as low as can be.
            w.is(4, "placeAll", 0);
            homesAre(w, 0, 1, 0, 1);
        });
    }

    private void why() {
        promise(14, "Tells why a child may not be placed in a home today: 0 it may, 1 to 7 as listed, the first of these.", w -> {
            int home = w.open(0, 0, 1);
            int child = w.kid(13 * YEAR, 1, 0, 0, 0);
            w.is(0, "why", child, home);
            w.ask("wish", child, home, NO);
            w.is(7, "why", child, home);
            int stranger = w.kid(1);
            w.ask("place", stranger, home);
            w.is(6, "why", child, home);
            w.ask("rest", home, 0, 0);
            w.is(5, "why", child, home);
            w.ask("train", home, 2, 0);
            w.is(4, "why", child, home);
            w.ask("approve", home, 0, 12, 0);
            w.is(3, "why", child, home);
            w.pass(1);
            w.is(2, "why", child, home);
            w.ask("order", child, STAY, 1, 1);
            w.is(1, "why", child, home);
        });
        promise(14, "Throws `IndexOutOfBoundsException` if there is no such child or home", w -> {
            w.refused(INDEX, "why", 0, 0);
            int home = w.open(0, 0, 1);
            w.refused(INDEX, "why", 0, home);
            int child = w.kid(0);
            for (int no : World.noneOf(1)) {
                w.refused(INDEX, "why", no, home);
                w.refused(INDEX, "why", child, no);
            }
            w.refused(INDEX, "why", 16, home);
            w.refused(INDEX, "why", child, 10);
        });
    }

    private void worth() {
        promise(15, "Returns the worth of a home for a child.", w -> {
            int home = w.open(50, 2, 5);
            for (int kid = 0; kid < 5; kid++) w.kid(3000, 0, 6, 0, 2);
            for (int kid = 0; kid < 4; kid++) w.ask("place", kid, home);
            int child = w.kid(3000, 0, 5, 0, 1);
            w.ask("wish", 4, home, YES);
            w.ask("wish", child, home, NO);
            // The greatest one that there is at that distance, and the least one of all.
            w.is(40 + 6 + 8 - 10, "worth", 4, home);
            w.is(-8 - 10, "worth", child, home);
        });
        promise(15, "Returns the worth of a home for a child.", w -> {
            int home = w.ask("home", 9, 0, 1);
            int child = w.ask("child", 3000, 0, 0, 0, 1);
            w.is(-1, "worth", child, home);
            w.is(1, "why", child, home);
        });
        promise(15, "Throws `IndexOutOfBoundsException` if there is no such child or home", w -> {
            w.refused(INDEX, "worth", 0, 0);
            int home = w.open(0, 0, 1);
            w.refused(INDEX, "worth", 0, home);
            int child = w.kid(0);
            for (int no : World.noneOf(1)) {
                w.refused(INDEX, "worth", no, home);
                w.refused(INDEX, "worth", child, no);
            }
            w.refused(INDEX, "worth", 16, home);
            w.refused(INDEX, "worth", child, 10);
        });
    }

    private void best() {
        promise(16, "Returns the best home for a child.", w -> {
            w.open(50, 1, 1);
            w.open(0, 1, 1);
            w.open(0, 0, 1);
            int child = w.kid(0);
            w.is(2, "best", child);
            w.ask("place", child, 2);
            w.is(2, "best", child);
            w.ask("rest", 2, 0, 0);
            w.is(1, "best", child);
        });
        promise(16, "Returns the home; NONE if it may be placed in none.", w -> {
            int child = w.kid(0);
            w.is(NONE, "best", child);
            w.ask("home", 0, 0, 1);
            w.is(NONE, "best", child);
            int home = w.open(50, 1, 1);
            w.is(-10, "worth", child, home);
            w.is(home, "best", child);
            w.ask("order", child, STAY, 0, 1);
            w.is(NONE, "best", child);
        });
        promise(16, "Throws `IndexOutOfBoundsException` if there is no such child", w -> {
            w.refused(INDEX, "best", 0);
            w.open(0, 0, 1);
            w.kid(0);
            for (int no : World.noneOf(1)) w.refused(INDEX, "best", no);
            w.refused(INDEX, "best", 16);
        });
    }

    private void place() {
        promise(17, "Places a child in a home; a stay elsewhere ends today.", w -> {
            int home = w.open(0, 0, 1);
            int other = w.open(0, 0, 1);
            int child = w.kid(0);
            w.pass(2);
            w.ask("place", child, home);
            w.is(home, "childIs", child, ITS_HOME);
            w.pass(3);
            w.ask("place", child, other);
            w.is(other, "childIs", child, ITS_HOME);
            w.is(5, "stay", 0, ENDED);
            w.is(5, "stay", 1, BEGAN);
            w.is(NONE, "stay", 1, ENDED);
        });
        promise(17, "Places a child in a home; a stay elsewhere ends today.", w -> {
            int home = w.open(0, 0, 1);
            int other = w.open(0, 0, 1);
            int child = w.kid(0);
            w.pass(2);
            w.ask("place", child, home);
            w.ask("place", child, other);
            w.ask("place", child, home);
            for (int stay = 0; stay < 3; stay++) {
                w.is(2, "stay", stay, BEGAN);
                w.is(stay == 2 ? NONE : 2, "stay", stay, ENDED);
            }
            w.pass(1);
            w.is(18, "owed", home);
            w.is(0, "owed", other);
        });
        promise(17, "Returns the number of the stay.", w -> {
            int home = w.open(0, 0, 2);
            int other = w.open(0, 0, 2);
            for (int kid = 0; kid < 3; kid++) w.kid(kid);
            w.is(0, "place", 2, home);
            w.is(1, "place", 0, other);
            w.is(2, "place", 1, home);
            w.is(3, "place", 2, other);
            w.is(2, "stay", 3, OF_CHILD);
        });
        promise(17, "Throws `IndexOutOfBoundsException` if there is no such child or home", w -> {
            w.refused(INDEX, "place", 0, 0);
            int home = w.open(0, 0, 1);
            w.refused(INDEX, "place", 0, home);
            int child = w.kid(0);
            for (int no : World.noneOf(1)) {
                w.refused(INDEX, "place", no, home);
                w.refused(INDEX, "place", child, no);
            }
            w.refused(INDEX, "place", 16, home);
            w.refused(INDEX, "place", child, 10);
        });
        promise(17, "Throws `IllegalStateException` if it is there, may not be placed there, or there are 100 stays", w -> {
            int home = w.open(0, 0, 2);
            int child = w.kid(0);
            w.ask("place", child, home);
            w.refused(STATE, "place", child, home);
            w.pass(1);
            w.refused(STATE, "place", child, home);
            w.is(NONE, "stay", 0, ENDED);
        });
        promise(17, "Throws `IllegalStateException` if it is there, may not be placed there, or there are 100 stays", w -> {
            for (int home = 0; home < 7; home++) w.open(0, 0, 1);
            int child = w.kid(13 * YEAR, 1, 0, 0, 0);
            int stranger = w.kid(1);
            int noCare = w.ask("child", 3000, 0, 0, 0, 0);
            w.ask("approve", 0, 0, 17, 0);
            w.ask("approve", 1, 14, 17, 20000);
            w.ask("train", 2, 14, 20000);
            w.ask("rest", 3, 0, 9);
            w.ask("place", stranger, 4);
            w.ask("wish", child, 5, NO);
            w.pass(1);
            w.ask("place", child, 6);
            for (int home = 0; home < 6; home++) w.refused(STATE, "place", child, home);
            w.refused(STATE, "place", noCare, 0);
            w.refused(STATE, "place", noCare, 3);
            w.is(6, "childIs", child, ITS_HOME);
        });
        promise(17, "Throws `IllegalStateException` if it is there, may not be placed there, or there are 100 stays", w -> {
            int home = w.open(0, 0, 1);
            int other = w.open(0, 0, 1);
            int child = w.kid(0);
            int stranger = w.kid(1);
            w.fillStays(99, child, home, other);
            w.is(99, "place", stranger, other);
            w.ask("order", stranger, HOME, 1, 1);
            w.pass(1);
            w.refused(STATE, "place", child, other);
            w.refused(STATE, "place", stranger, other);
            w.refused(INDEX, "place", 2, other);
            w.is(home, "childIs", child, ITS_HOME);
        });
    }

    private void placeAll() {
        promise(18, "Places the children of a family at once.", w -> {
            w.open(0, 0, 5);
            for (int kid = 0; kid < 6; kid++) w.kid(kid % 2);
            w.pass(2);
            w.is(3, "placeAll", 1);
            homesAre(w, NONE, 0, NONE, 0, NONE, 0);
            for (int stay = 0; stay < 3; stay++) {
                w.is(1 + 2 * stay, "stay", stay, OF_CHILD);
                w.is(0, "stay", stay, OF_HOME);
                w.is(2, "stay", stay, BEGAN);
                w.is(NONE, "stay", stay, ENDED);
                w.is(1 + 2 * stay, "stay", stay, BY_ORDER);
            }
        });
        promise(18, "`family`: 0 to 7", w -> {
            w.open(0, 0, 5);
            w.kid(0);
            w.kid(7);
            w.outside(0, 7, 0, "placeAll", 0);
            w.is(0, "placeAll", 1);
            w.is(1, "placeAll", 0);
            w.is(1, "placeAll", 7);
        });
        promise(18, "Returns how many are placed.", w -> {
            w.is(0, "placeAll", 0);
            for (int kid = 0; kid < 3; kid++) w.kid(0);
            w.is(0, "placeAll", 0);
            w.open(0, 0, 2);
            w.is(2, "placeAll", 0);
            w.is(0, "placeAll", 0);
            w.open(0, 0, 5);
            w.is(1, "placeAll", 0);
            w.is(0, "placeAll", 0);
        });
        promise(18, "Returns how many are placed.", w -> {
            w.open(0, 0, 5);
            for (int kid = 0; kid < 5; kid++) w.kid(0);
            w.is(5, "placeAll", 0);
            homesAre(w, 0, 0, 0, 0, 0);
        });
    }

    private void placeAllRefused() {
        String words = "Throws `IllegalStateException` if there would be more than 100 stays, or more than 5 children are to be"
            + " placed";
        promise(18, "Throws `IllegalArgumentException` if family is out of range", w -> {
            w.open(0, 0, 5);
            w.kid(7);
            for (int family : new int[] {-1, 8, LEAST, MOST}) w.refused(ARGUMENT, "placeAll", family);
            w.is(NONE, "childIs", 0, ITS_HOME);
        });
        promise(18, words, w -> {
            int home = w.open(0, 0, 1);
            int other = w.open(0, 0, 4);
            int child = w.kid(0);
            for (int kid = 1; kid < 4; kid++) w.kid(1);
            w.fillStays(97, child, other, home);
            w.is(3, "placeAll", 1);
            w.is(3, "stay", 99, OF_CHILD);
        });
        promise(18, words, w -> {
            int home = w.open(0, 0, 1);
            int other = w.open(0, 0, 4);
            int child = w.kid(0);
            for (int kid = 1; kid < 4; kid++) w.kid(1);
            w.fillStays(98, child, home, other);
            w.refused(STATE, "placeAll", 1);
            homesAre(w, other, NONE, NONE, NONE);
            w.refused(INDEX, "stay", 98, 0);
            w.ask("order", 3, STAY, 0, 1);
            w.is(2, "placeAll", 1);
            homesAre(w, other, other, other, NONE);
        });
        promise(18, words, w -> {
            int home = w.open(0, 0, 1);
            int other = w.open(0, 0, 1);
            int child = w.kid(0);
            w.fillStays(100, child, home, other);
            w.is(0, "placeAll", 1);
            w.kid(1);
            w.refused(STATE, "placeAll", 1);
            // With no bed for it, there would be no more than 100 stays.
            w.ask("rest", home, 0, 9);
            w.is(0, "placeAll", 1);
        });
        promise(18, words, w -> {
            w.open(0, 0, 5);
            w.open(0, 0, 5);
            for (int kid = 0; kid < 6; kid++) w.kid(0);
            w.refused(STATE, "placeAll", 0);
            homesAre(w, NONE, NONE, NONE, NONE, NONE, NONE);
            w.ask("place", 2, 1);
            w.is(5, "placeAll", 0);
            homesAre(w, 0, 0, 1, 0, 0, 0);
        });
        promise(18, words, w -> {
            for (int kid = 0; kid < 16; kid++) w.kid(0);
            w.refused(STATE, "placeAll", 0);
            w.is(0, "placeAll", 1);
            for (int kid = 5; kid < 16; kid++) w.ask("order", kid, kid % 2 == 0 ? STAY : HOME, 0, 1);
            w.is(0, "placeAll", 0);
        });
    }
}
