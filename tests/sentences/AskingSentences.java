/** Asking, and files: promises 26 to 30, and what the terms say of files. */
final class AskingSentences extends Section {
    AskingSentences(Sheet sheet) {
        super(sheet);
    }

    @Override
    void all() {
        termsOfFiles();
        childIsHomeAndAge();
        childIsVisits();
        childIsRefused();
        stay();
        stayIsRefused();
        wasAllowed();
        butBedsAndWishes();
        blacken();
        file();
        fileIsRefused();
    }

    /** A child of 18 years that had stays in homes 0, 1 and 0, and is in no home. */
    private static int grown(World w) {
        int home = w.open(0, 0, 1);
        int other = w.open(0, 0, 1);
        int child = w.kid(18 * YEAR - 2, 0, 0, 0, 0);
        w.ask("place", child, home);
        w.ask("place", child, other);
        w.pass(1);
        w.ask("place", child, home);
        w.ask("order", child, HOME, 2, 1);
        w.pass(1);
        return child;
    }

    private void termsOfFiles() {
        terms("The file of a child is sealed till it is 18 years old; then it can be opened", w -> {
            int home = w.open(0, 0, 1);
            int child = w.kid(18 * YEAR - 2, 0, 0, 0, 0);
            w.ask("place", child, home);
            w.refused(STATE, "file", child, 0);
            w.pass(1);
            w.refused(STATE, "file", child, 0);
            w.refused(STATE, "file", child, 1);
            w.pass(1);
            w.is(home, "file", child, 0);
            w.pass(400);
            w.is(home, "file", child, 0);
        });
        terms("it tells its stays, in order, by homes", w -> {
            int child = grown(w);
            int[] due = {0, 1, 0, NONE};
            for (int place = 0; place < due.length; place++) w.is(due[place], "file", child, place);
            int stranger = w.kid(18 * YEAR, 0, 0, 0, 0);
            w.is(NONE, "file", stranger, 0);
        });
        terms("those in homes that were told to be blackened are told as BLACK", w -> {
            int child = grown(w);
            w.ask("blacken", 0, YES);
            int[] due = {BLACK, 1, BLACK, NONE};
            for (int place = 0; place < due.length; place++) w.is(due[place], "file", child, place);
            w.ask("blacken", 1, YES);
            w.ask("blacken", 0, NO);
            int[] then = {0, BLACK, 0, NONE};
            for (int place = 0; place < then.length; place++) w.is(then[place], "file", child, place);
        });
    }

    private void childIsHomeAndAge() {
        promise(26, "Tells of a child.", w -> {
            w.ask("child", 730, 0, 0, 0, 0);
            w.ask("child", 365, 0, 0, 0, 0);
            int[] due = {NONE, 1, 0, 0, 0, 0, 1};
            for (int what = 0; what < due.length; what++) w.is(due[what], "childIs", 1, what);
        });
        promise(26, "0 its home, NONE without", w -> {
            for (int home = 0; home < 10; home++) w.open(0, 0, 1);
            int child = w.kid(0);
            w.is(NONE, "childIs", child, 0);
            w.ask("place", child, 0);
            w.is(0, "childIs", child, 0);
            w.ask("place", child, 9);
            w.is(9, "childIs", child, 0);
            w.ask("order", child, HOME, 1, 1);
            w.is(9, "childIs", child, 0);
            w.pass(1);
            w.is(NONE, "childIs", child, 0);
        });
        promise(26, "1 its age in years", w -> {
            int[] days = {0, 364, 365, 7000};
            for (int age : days) w.ask("child", age, 0, 0, 0, 0);
            int[] due = {0, 0, 1, 19};
            for (int child = 0; child < 4; child++) w.is(due[child], "childIs", child, 1);
            w.pass(12000);
            // 12000, 12364, 12365 and 19000 days.
            int[] then = {32, 33, 33, 52};
            for (int child = 0; child < 4; child++) w.is(then[child], "childIs", child, 1);
        });
        promise(26, "2 how many stays it had", w -> {
            int home = w.open(0, 0, 5);
            int other = w.open(0, 0, 5);
            int child = w.kid(0);
            int stranger = w.kid(1);
            w.is(0, "childIs", child, 2);
            w.ask("place", child, home);
            w.is(1, "childIs", child, 2);
            w.ask("place", child, other);
            w.is(2, "childIs", child, 2);
            w.refused(STATE, "place", child, other);
            w.is(2, "childIs", child, 2);
            w.ask("placeAll", 1);
            w.is(2, "childIs", child, 2);
            w.is(1, "childIs", stranger, 2);
            w.fillStays(100, child, home, other);
            w.is(99, "childIs", child, 2);
        });
        promise(26, "6 its worker", w -> {
            for (int child = 0; child < 6; child++) w.ask("child", 0, 0, 0, 0, 0);
            for (int child = 0; child < 6; child++) w.is(child % 5, "childIs", child, 6);
            w.ask("handOver", 5, 4);
            w.is(4, "childIs", 5, 6);
        });
    }

    private void childIsVisits() {
        promise(26, "3 how many visits were kept, 4 missed, in all", w -> {
            int home = w.open(0, 0, 5);
            int other = w.open(0, 0, 5);
            int child = w.kid(0);
            w.ask("visits", child, 1);
            w.ask("place", child, home);
            w.is(0, "childIs", child, 3);
            w.is(0, "childIs", child, 4);
            w.ask("came", child);
            w.is(0, "childIs", child, 3);
            w.pass(3);
            w.is(1, "childIs", child, 3);
            w.is(2, "childIs", child, 4);
            w.ask("place", child, other);
            w.ask("came", child);
            w.pass(2);
            w.is(2, "childIs", child, 3);
            w.is(3, "childIs", child, 4);
        });
        promise(26, "5 whether they are WATCHED (1 or 0)", w -> {
            int home = w.open(0, 0, 5);
            int child = w.kid(0);
            int other = w.kid(1);
            w.ask("visits", child, 1);
            w.is(0, "childIs", child, 5);
            w.ask("place", child, home);
            w.ask("place", other, home);
            w.pass(2);
            w.is(0, "childIs", child, 5);
            w.pass(1);
            w.is(1, "childIs", child, 5);
            w.is(0, "childIs", other, 5);
            w.pass(9);
            w.is(1, "childIs", child, 5);
        });
    }

    private void childIsRefused() {
        promise(26, "Throws `IndexOutOfBoundsException` if there is no such child", w -> {
            w.refused(INDEX, "childIs", 0, 0);
            w.ask("child", 0, 0, 0, 0, 0);
            for (int no : World.noneOf(1)) {
                for (int what = -1; what < 8; what++) w.refused(INDEX, "childIs", no, what);
            }
            w.refused(INDEX, "childIs", 16, 0);
        });
        promise(26, "Throws `IllegalArgumentException` if what is out of range", w -> {
            int child = w.ask("child", 0, 0, 0, 0, 0);
            w.range(0, 6, 1, "childIs", child, 0);
        });
    }

    private void stay() {
        promise(27, "Tells of a stay.", w -> {
            int home = w.open(0, 0, 5);
            for (int kid = 0; kid < 3; kid++) w.kid(kid);
            w.pass(4);
            w.ask("place", 2, home);
            w.ask("place", 1, home);
            int[] due = {2, home, 4, NONE, 2};
            for (int what = 0; what < 5; what++) w.is(due[what], "stay", 0, what);
            int[] then = {1, home, 4, NONE, 1};
            for (int what = 0; what < 5; what++) w.is(then[what], "stay", 1, what);
        });
        promise(27, "3 that on which it ended, NONE if it goes on", w -> {
            int home = w.open(0, 0, 1);
            int other = w.open(0, 0, 1);
            int child = w.kid(0);
            w.ask("place", child, home);
            w.is(NONE, "stay", 0, 3);
            w.ask("place", child, other);
            w.is(0, "stay", 0, 3);
            w.pass(400);
            w.is(NONE, "stay", 1, 3);
            w.ask("order", child, HOME, 401, 1);
            w.is(NONE, "stay", 1, 3);
            w.pass(9);
            w.is(401, "stay", 1, 3);
            w.is(0, "stay", 0, 3);
        });
        promise(27, "2 the day on which it began", w -> {
            int home = w.open(0, 0, 1);
            int child = w.kid(0, 0, 0, 0, 0);
            w.pass(6999);
            w.ask("order", child, CARE, 6999, 7000);
            w.ask("approve", home, 0, 17, 20000);
            w.refused(STATE, "place", child, home);
            int baby = w.kid(0, 0, 0, 0, 0);
            w.pass(5001);
            w.ask("place", baby, home);
            w.is(12000, "stay", 0, 2);
            w.is(0, "owed", home);
        });
        promise(27, "4 the order that counted", w -> {
            int home = w.open(0, 0, 1);
            int child = w.ask("child", 3000, 0, 0, 0, 0);
            w.ask("order", child, STAY, 0, 9);
            w.ask("order", child, CARE, 0, 9);
            w.ask("order", child, STAY, 1, 9);
            w.ask("place", child, home);
            w.ask("order", child, STAY, 0, 1);
            w.is(1, "stay", 0, 4);
            w.pass(2);
            w.is(1, "stay", 0, 4);
        });
    }

    private void stayIsRefused() {
        promise(27, "Throws `IndexOutOfBoundsException` if there is no such stay", w -> {
            int home = w.open(0, 0, 1);
            int child = w.kid(0);
            w.refused(INDEX, "stay", 0, 0);
            w.ask("place", child, home);
            for (int no : World.noneOf(1)) {
                for (int what = -1; what < 6; what++) w.refused(INDEX, "stay", no, what);
            }
            w.refused(INDEX, "stay", 100, 0);
        });
        promise(27, "Throws `IllegalArgumentException` if what is out of range", w -> {
            int home = w.open(0, 0, 1);
            int child = w.kid(0);
            w.ask("place", child, home);
            w.range(0, 4, 1, "stay", 0, 0);
        });
    }

    private void wasAllowed() {
        String words = "Tells whether the placing with which a stay began was allowed on that day, looked at again by all that was"
            + " told";
        promise(28, words, w -> {
            int home = w.open(0, 0, 1);
            int other = w.open(0, 0, 1);
            int child = w.kid(10 * YEAR, 1, 0, 0, 0);
            w.pass(2);
            w.ask("place", child, home);
            w.is(YES, "wasAllowed", 0);
            w.ask("order", child, STAY, 2, 1);
            w.is(NO, "wasAllowed", 0);
            w.pass(1);
            w.ask("place", child, other);
            w.is(NO, "wasAllowed", 0);
            w.is(YES, "wasAllowed", 1);
        });
        promise(28, words, w -> {
            int home = w.open(0, 0, 1);
            int child = w.kid(10 * YEAR, 1, 0, 0, 0);
            w.ask("place", child, home);
            w.ask("approve", home, 10, 10, 0);
            w.ask("train", home, 1, 0);
            w.ask("rest", home, 1, 20000);
            w.ask("order", child, STAY, 1, 7000);
            w.is(YES, "wasAllowed", 0);
            w.pass(400);
            w.is(11, "childIs", child, YEARS);
            w.is(YES, "wasAllowed", 0);
        });
        promise(28, words, w -> {
            int home = w.open(0, 0, 1);
            int child = w.kid(10 * YEAR, 1, 0, 0, 0);
            w.ask("place", child, home);
            w.ask("approve", home, 0, 9, 20000);
            w.is(NO, "wasAllowed", 0);
            w.ask("approve", home, 11, 17, 20000);
            w.is(NO, "wasAllowed", 0);
            w.ask("approve", home, 10, 10, 20000);
            w.is(YES, "wasAllowed", 0);
            w.ask("train", home, 14, 20000);
            w.is(NO, "wasAllowed", 0);
            w.ask("train", home, 1, 20000);
            w.is(YES, "wasAllowed", 0);
            w.ask("rest", home, 0, 0);
            w.is(NO, "wasAllowed", 0);
            w.pass(1);
            w.is(NO, "wasAllowed", 0);
        });
        promise(28, "Throws `IndexOutOfBoundsException` if there is no such stay", w -> {
            int home = w.open(0, 0, 1);
            int child = w.kid(0);
            w.refused(INDEX, "wasAllowed", 0);
            w.ask("place", child, home);
            for (int no : World.noneOf(1)) w.refused(INDEX, "wasAllowed", no);
            w.refused(INDEX, "wasAllowed", 100);
        });
    }

    private void butBedsAndWishes() {
        promise(28, "but beds and wishes", w -> {
            int home = w.open(0, 0, 1);
            int other = w.open(0, 0, 1);
            int child = w.kid(13 * YEAR, 0, 0, 0, 0);
            int stranger = w.kid(1);
            w.ask("place", child, home);
            w.ask("wish", child, home, NO);
            w.is(YES, "wasAllowed", 0);
            w.ask("place", child, other);
            w.ask("place", stranger, home);
            w.is(6, "why", child, home);
            w.is(YES, "wasAllowed", 0);
            w.is(YES, "wasAllowed", 2);
        });
    }

    private void blacken() {
        promise(29, "Lets a home be blackened in files, or not.", w -> {
            int child = grown(w);
            w.ask("blacken", 1, YES);
            w.is(0, "file", child, 0);
            w.is(BLACK, "file", child, 1);
            w.ask("blacken", 1, NO);
            w.is(1, "file", child, 1);
        });
        promise(29, "Returns whether it was.", w -> {
            int home = w.open(0, 0, 1);
            int other = w.open(0, 0, 1);
            w.is(NO, "blacken", home, NO);
            w.is(NO, "blacken", home, YES);
            w.is(YES, "blacken", home, YES);
            w.is(NO, "blacken", other, NO);
            w.is(YES, "blacken", home, NO);
            w.is(NO, "blacken", home, NO);
        });
        promise(29, "Throws `IndexOutOfBoundsException` if there is no such home", w -> {
            w.refused(INDEX, "blacken", 0, YES);
            w.open(0, 0, 1);
            for (int no : World.noneOf(1)) w.refused(INDEX, "blacken", no, YES);
            w.refused(INDEX, "blacken", 10, YES);
            w.is(NO, "blacken", 0, NO);
        });
    }

    private void file() {
        promise(30, "Reads the file of a child.", w -> {
            int child = grown(w);
            int other = w.kid(18 * YEAR, 0, 0, 0, 0);
            int[] due = {0, 1, 0};
            for (int place = 0; place < due.length; place++) w.is(due[place], "file", child, place);
            for (int place = 0; place < due.length; place++) w.is(NONE, "file", other, place);
        });
        promise(30, "`place`: 0 for its first stay", w -> {
            int home = w.open(0, 0, 5);
            int other = w.open(0, 0, 5);
            int stranger = w.kid(1);
            int child = w.kid(18 * YEAR - 1, 0, 0, 0, 0);
            w.ask("place", stranger, home);
            w.ask("place", child, other);
            w.pass(1);
            w.is(other, "file", child, 0);
            w.is(NONE, "file", child, 1);
        });
        promise(30, "Returns the home; BLACK; NONE behind the last one.", w -> {
            int child = grown(w);
            w.ask("blacken", 0, YES);
            w.is(BLACK, "file", child, 2);
            w.is(NONE, "file", child, 3);
            w.is(NONE, "file", child, 100);
            w.is(NONE, "file", child, MOST);
            w.is(1, "file", child, 1);
        });
        promise(30, "Returns the home; BLACK; NONE behind the last one.", w -> {
            int home = w.open(0, 0, 1);
            int other = w.open(0, 0, 1);
            int child = w.kid(18 * YEAR - 1, 0, 0, 0, 0);
            w.fillStays(100, child, home, other);
            w.pass(1);
            w.is(home, "file", child, 0);
            w.is(home, "file", child, 98);
            w.is(other, "file", child, 99);
            w.is(NONE, "file", child, 100);
        });
    }

    private void fileIsRefused() {
        promise(30, "Throws `IndexOutOfBoundsException` if there is no such child, or place is below 0", w -> {
            w.refused(INDEX, "file", 0, 0);
            int child = grown(w);
            for (int no : World.noneOf(1)) {
                w.refused(INDEX, "file", no, 0);
                w.refused(INDEX, "file", no, -1);
            }
            w.refused(INDEX, "file", 16, 0);
            w.refused(INDEX, "file", child, -1);
            w.refused(INDEX, "file", child, LEAST);
            int young = w.kid(0);
            w.refused(INDEX, "file", young, -1);
        });
        promise(30, "Throws `IllegalStateException` if it is sealed", w -> {
            int[] days = {0, 17 * YEAR, 18 * YEAR - 1, 18 * YEAR, 7000};
            for (int age : days) w.ask("child", age, 0, 0, 0, 0);
            for (int child = 0; child < 3; child++) {
                w.refused(STATE, "file", child, 0);
                w.refused(STATE, "file", child, MOST);
            }
            w.is(NONE, "file", 3, 0);
            w.is(NONE, "file", 4, 0);
            w.pass(1);
            w.is(NONE, "file", 2, 0);
            w.refused(STATE, "file", 1, 0);
        });
    }
}
