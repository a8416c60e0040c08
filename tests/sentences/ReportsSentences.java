/** Reports, orders and wishes: promises 7 to 13, and what the terms say of them. */
final class ReportsSentences extends Section {
    ReportsSentences(Sheet sheet) {
        super(sheet);
    }

    @Override
    void all() {
        termsOfRisk();
        termsOfSeeing();
        termsOfOverdue();
        termsOfOrders();
        termsOfBeginnings();
        termsOfWishes();
        report();
        see();
        risk();
        seeBy();
        order();
        counts();
        wish();
    }

    private static int child(World w) {
        return w.ask("child", 3000, 0, 0, 0, 0);
    }

    /** So much risk by reports of today, each source at most 9. */
    private static void reports(World w, int child, int risk) {
        for (int source = 0, left = risk; left > 0; source++, left -= 9) w.ask("report", child, source, Math.min(left, 9));
    }

    private void termsOfRisk() {
        terms("A report of a child is of a source, 0 to 9, on the day of now, with a weight, 1 to 9.", w -> {
            int child = child(w);
            w.outside(0, 9, 1, "report", child, 0, 1);
            w.outside(1, 9, 2, "report", child, 0, 1);
            for (int source = 0; source < 10; source++) {
                w.is(9 * source + 1, "report", child, source, 1);
                w.is(9 * source + 9, "report", child, source, 9);
            }
        });
        terms("The risk of a child is the sum of the weights of all reports of the latest 30 days, today with them", w -> {
            int child = child(w);
            w.is(5, "report", child, 0, 5);
            w.pass(29);
            w.is(5, "risk", child);
            w.pass(1);
            w.is(0, "risk", child);
        });
        terms("The risk of a child is the sum of the weights of all reports of the latest 30 days, today with them", w -> {
            int child = child(w);
            w.is(0, "risk", child);
            w.ask("report", child, 0, 5);
            w.pass(1);
            w.is(7, "report", child, 0, 2);
            w.pass(28);
            w.is(8, "report", child, 3, 1);
            w.pass(1);
            w.is(3, "risk", child);
            w.pass(1);
            w.is(1, "risk", child);
            w.pass(27);
            w.is(1, "risk", child);
            w.pass(1);
            w.is(0, "risk", child);
        });
        terms("but of several of one source on one day the greatest alone", w -> {
            int child = child(w);
            int other = child(w);
            w.is(3, "report", child, 0, 3);
            w.is(9, "report", child, 0, 9);
            w.is(9, "report", child, 0, 9);
            w.is(9, "report", child, 0, 4);
            w.is(10, "report", child, 9, 1);
            w.is(11, "report", child, 9, 2);
            w.is(2, "report", other, 0, 2);
            w.pass(1);
            w.is(12, "report", child, 0, 1);
            w.is(14, "report", child, 0, 3);
        });
    }

    private void termsOfSeeing() {
        int[] risks = {1, 5, 6, 11, 12, 13, 90};
        int[] within = {20, 20, 5, 5, 1, 1, 1};
        for (int i = 0; i < risks.length; i++) {
            int risk = risks[i];
            int days = within[i];
            terms("A child must be seen within 1 day by a risk of 12 or more, 5 by 6 or more, 20 by 1 or more", w -> {
                int child = child(w);
                w.pass(3);
                reports(w, child, risk);
                w.is(risk, "risk", child);
                w.is(3 + days, "seeBy", child);
            });
        }
        terms("A child must be seen within 1 day by a risk of 12 or more, 5 by 6 or more, 20 by 1 or more", w -> {
            int child = child(w);
            w.pass(3);
            w.ask("report", child, 0, 5);
            w.is(23, "seeBy", child);
            w.pass(2);
            w.ask("report", child, 0, 6);
            w.is(8, "seeBy", child);
            w.ask("report", child, 1, 1);
            w.is(4, "seeBy", child);
        });
        terms("counted from the day of the first report of the latest 30 days", w -> {
            int child = child(w);
            w.ask("report", child, 0, 1);
            w.pass(10);
            w.ask("report", child, 0, 1);
            w.pass(19);
            w.is(20, "seeBy", child);
            w.pass(1);
            w.is(30, "seeBy", child);
            w.pass(9);
            w.is(30, "seeBy", child);
            w.pass(1);
            w.is(NONE, "seeBy", child);
        });
        terms("that came on a day behind the latest one on which it was seen, if there is one", w -> {
            int child = child(w);
            w.ask("report", child, 0, 1);
            w.is(20, "seeBy", child);
            w.ask("see", child);
            w.is(NONE, "seeBy", child);
            w.ask("report", child, 0, 9);
            w.is(NONE, "seeBy", child);
            w.pass(1);
            w.is(NONE, "seeBy", child);
            w.is(12, "report", child, 0, 3);
            w.is(2, "seeBy", child);
        });
        terms("that came on a day behind the latest one on which it was seen, if there is one", w -> {
            int child = child(w);
            for (int day = 0; day < 4; day++) {
                w.ask("report", child, 0, 1);
                if (day < 2) w.ask("see", child);
                w.pass(1);
            }
            w.is(22, "seeBy", child);
            w.ask("see", child);
            w.is(NONE, "seeBy", child);
        });
    }

    private void termsOfOverdue() {
        int[] risks = {12, 6, 1};
        int[] within = {1, 5, 20};
        for (int i = 0; i < risks.length; i++) {
            int risk = risks[i];
            int days = within[i];
            terms("it is overdue, if more have passed", w -> {
                int child = child(w);
                int other = child(w);
                w.pass(2);
                reports(w, child, risk);
                reports(w, other, risk);
                w.pass(days);
                w.is(NO, "see", child);
                w.pass(1);
                w.is(NO, "see", child);
                w.is(YES, "see", other);
                w.is(NO, "see", other);
            });
        }
        terms("it is overdue, if more have passed", w -> {
            int child = child(w);
            int other = child(w);
            w.ask("report", child, 0, 1);
            w.ask("report", other, 0, 1);
            w.pass(29);
            w.is(YES, "see", child);
            w.pass(1);
            w.is(NO, "see", other);
        });
    }

    private void termsOfOrders() {
        terms("Orders are numbered from 0, at most 60", w -> {
            for (int child = 0; child < 3; child++) child(w);
            for (int number = 0; number < 60; number++) w.is(number, "order", number % 3, CARE, 0, 1);
            w.refused(STATE, "order", 0, CARE, 0, 1);
            w.is(57, "counts", 0, 0);
            w.is(58, "counts", 1, 0);
            w.is(59, "counts", 2, 0);
        });
        terms("an order is for a child: CARE, that it may be placed, HOME, that it goes back to its family, or STAY,"
            + " that it stays where it is, from a day, not ahead of now, for so many days.", w -> {
            int child = child(w);
            int other = child(w);
            w.pass(3);
            w.refused(ARGUMENT, "order", child, CARE, 2, 5);
            w.is(0, "order", child, CARE, 3, 2);
            int[] due = {NONE, NONE, NONE, 0, 0, NONE, NONE};
            for (int day = 0; day < due.length; day++) {
                w.is(due[day], "counts", child, day);
                w.is(NONE, "counts", other, day);
            }
        });
        terms("Of those that hold on a day, the one that was told last counts.", w -> {
            int child = child(w);
            w.ask("order", child, CARE, 3, 5);
            w.ask("order", child, STAY, 0, 5);
            w.ask("order", child, HOME, 4, 1);
            int[] due = {1, 1, 1, 1, 2, 0, 0, 0, NONE};
            for (int day = 0; day < due.length; day++) w.is(due[day], "counts", child, day);
        });
    }

    private void termsOfBeginnings() {
        terms("At the beginning of a day on which HOME counts, a child that is in a home goes back", w -> {
            int home = w.open(0, 0, 2);
            int child = w.kid(0);
            int other = w.kid(1);
            w.ask("place", child, home);
            w.ask("place", other, home);
            w.ask("order", child, HOME, 3, 1);
            w.pass(2);
            w.is(home, "childIs", child, ITS_HOME);
            w.pass(1);
            w.is(NONE, "childIs", child, ITS_HOME);
            w.is(home, "childIs", other, ITS_HOME);
            w.is(3, "stay", 0, ENDED);
            w.pass(1);
            w.is(NONE, "childIs", child, ITS_HOME);
            w.is(0, "why", child, home);
        });
        terms("At the beginning of a day on which HOME counts, a child that is in a home goes back", w -> {
            int home = w.open(0, 0, 2);
            int child = w.kid(0);
            w.ask("place", child, home);
            w.ask("order", child, HOME, 200, 1);
            w.ask("order", child, STAY, 100, 50);
            w.pass(400);
            w.is(200, "stay", 0, ENDED);
        });
        terms("At the beginning of a day on which HOME counts, a child that is in a home goes back", w -> {
            int home = w.open(0, 0, 2);
            int child = w.kid(0);
            w.ask("place", child, home);
            w.ask("order", child, HOME, 2, 1);
            w.ask("order", child, CARE, 2, 1);
            w.pass(2);
            w.is(home, "childIs", child, ITS_HOME);
        });
        terms("the beginning of today is over when something is told", w -> {
            int home = w.open(0, 0, 2);
            int child = w.kid(0);
            w.pass(4);
            w.ask("place", child, home);
            w.ask("order", child, HOME, 4, 1);
            w.is(home, "childIs", child, ITS_HOME);
            w.is(1, "why", child, home);
            w.pass(1);
            w.is(home, "childIs", child, ITS_HOME);
            w.ask("order", child, HOME, 5, 2);
            w.is(NONE, "stay", 0, ENDED);
            w.pass(1);
            w.is(6, "stay", 0, ENDED);
        });
    }

    private void termsOfWishes() {
        terms("A wish of a child, to be in a home or not to be there, is heard at any age, and kept", w -> {
            int home = w.open(0, 1, 1);
            int other = w.open(0, 1, 1);
            int born = w.kid(0, 0, 0, 0, 0);
            int grown = w.kid(7000, 0, 1, 0, 0);
            w.ask("wish", born, home, NO);
            w.ask("wish", born, other, YES);
            w.ask("wish", grown, home, NO);
            w.ask("wish", grown, other, YES);
            w.pass(800);
            for (int child : new int[] {born, grown}) {
                w.is(-8, "worth", child, home);
                w.is(8, "worth", child, other);
            }
        });
        terms("the latest one about a home counts", w -> {
            int home = w.open(0, 1, 1);
            int other = w.open(0, 1, 1);
            int child = w.kid(12 * YEAR, 0, 0, 0, 0);
            w.ask("wish", child, home, NO);
            w.is(7, "why", child, home);
            w.ask("wish", child, other, NO);
            w.ask("wish", child, home, YES);
            w.is(8, "worth", child, home);
            w.is(0, "why", child, home);
            w.is(7, "why", child, other);
            w.pass(1);
            w.ask("wish", child, home, NO);
            w.is(-8, "worth", child, home);
            w.is(7, "why", child, home);
        });
        terms("the latest one about a home counts", w -> {
            int home = w.open(0, 1, 1);
            int child = w.kid(12 * YEAR - 1, 0, 0, 0, 0);
            w.ask("wish", child, home, NO);
            w.pass(1);
            w.is(0, "why", child, home);
            w.ask("wish", child, home, NO);
            w.is(7, "why", child, home);
        });
    }

    private void report() {
        promise(7, "Reports a child.", w -> {
            int child = child(w);
            int other = child(w);
            w.is(4, "report", child, 0, 4);
            w.is(4, "risk", child);
            w.is(0, "risk", other);
        });
        promise(7, "`source`: 0 to 9", w -> {
            int child = child(w);
            w.range(0, 9, 1, "report", child, 0, 2);
            w.is(4, "risk", child);
        });
        promise(7, "`weight`: 1 to 9", w -> {
            int child = child(w);
            w.range(1, 9, 2, "report", child, 0, 1);
            w.is(9, "risk", child);
            w.is(10, "report", child, 1, 1);
        });
        promise(7, "Returns the risk then.", w -> {
            int child = child(w);
            w.is(9, "report", child, 0, 9);
            w.is(9, "report", child, 0, 1);
            w.pass(30);
            w.is(1, "report", child, 0, 1);
        });
        promise(7, "Throws `IndexOutOfBoundsException` if there is no such child", w -> {
            w.refused(INDEX, "report", 0, 0, 1);
            child(w);
            for (int no : World.noneOf(1)) {
                w.refused(INDEX, "report", no, 0, 1);
                w.refused(INDEX, "report", no, 10, 0);
            }
            w.refused(INDEX, "report", 16, 0, 1);
        });
        promise(7, "Throws `IllegalArgumentException` if source or weight is out of range", w -> {
            int child = child(w);
            w.outside(0, 9, 1, "report", child, 0, 9);
            w.outside(1, 9, 2, "report", child, 9, 1);
            w.refused(ARGUMENT, "report", child, -1, 10);
            for (int report = 0; report < 30; report++) w.ask("report", child, 0, 1);
            w.refused(ARGUMENT, "report", child, 10, 1);
            w.refused(ARGUMENT, "report", child, 0, 0);
        });
        promise(7, "Throws `IllegalStateException` if it has 30 reports, of whatever days", w -> {
            int child = child(w);
            int other = child(w);
            for (int report = 0; report < 30; report++) w.is(5, "report", child, 3, 5);
            w.refused(STATE, "report", child, 3, 9);
            w.refused(STATE, "report", child, 4, 1);
            w.is(5, "risk", child);
            w.is(1, "report", other, 4, 1);
        });
        promise(7, "Throws `IllegalStateException` if it has 30 reports, of whatever days", w -> {
            int child = child(w);
            for (int report = 0; report < 29; report++) {
                w.ask("report", child, 0, 1);
                w.pass(2);
            }
            w.pass(100);
            w.is(7, "report", child, 0, 7);
            w.refused(STATE, "report", child, 0, 9);
            w.pass(100);
            w.refused(STATE, "report", child, 0, 9);
            w.is(0, "risk", child);
        });
    }

    private void see() {
        promise(8, "Tells that a child is seen today.", w -> {
            int child = child(w);
            int other = child(w);
            for (int no = 0; no < 2; no++) w.ask("report", no, 0, 1);
            w.ask("see", child);
            w.is(NONE, "seeBy", child);
            w.is(20, "seeBy", other);
            w.pass(1);
            w.ask("report", child, 0, 1);
            w.is(21, "seeBy", child);
        });
        promise(8, "Returns whether it was overdue.", w -> {
            int child = child(w);
            w.is(NO, "see", child);
            w.pass(1);
            w.ask("report", child, 0, 9);
            w.ask("report", child, 1, 9);
            w.is(NO, "see", child);
            w.pass(9);
            w.is(NO, "see", child);
            w.pass(1);
            w.ask("report", child, 0, 1);
            w.pass(2);
            w.is(YES, "see", child);
            w.is(NO, "see", child);
        });
        promise(8, "Throws `IndexOutOfBoundsException` if there is no such child", w -> {
            w.refused(INDEX, "see", 0);
            w.ask("report", child(w), 0, 1);
            for (int no : World.noneOf(1)) w.refused(INDEX, "see", no);
            w.refused(INDEX, "see", 16);
            w.is(20, "seeBy", 0);
        });
    }

    private void risk() {
        promise(9, "Returns the risk of a child.", w -> {
            int child = child(w);
            int other = child(w);
            w.is(0, "risk", child);
            for (int day = 0; day < 3; day++) {
                for (int source = 0; source < 10; source++) w.ask("report", child, source, 9);
                if (day < 2) w.pass(1);
            }
            w.is(270, "risk", child);
            w.is(0, "risk", other);
            w.ask("see", child);
            w.is(270, "risk", child);
            w.pass(27);
            w.is(270, "risk", child);
            w.pass(1);
            w.is(180, "risk", child);
            w.pass(2);
            w.is(0, "risk", child);
        });
        promise(9, "Throws `IndexOutOfBoundsException` if there is no such child", w -> {
            w.refused(INDEX, "risk", 0);
            child(w);
            for (int no : World.noneOf(1)) w.refused(INDEX, "risk", no);
            w.refused(INDEX, "risk", 16);
        });
    }

    private void seeBy() {
        promise(10, "Returns up to which day a child must be seen.", w -> {
            int child = child(w);
            w.ask("report", child, 0, 9);
            w.is(5, "seeBy", child);
            w.pass(29);
            w.is(5, "seeBy", child);
        });
        promise(10, "Returns the day; NONE if it need not.", w -> {
            int child = child(w);
            w.is(NONE, "seeBy", child);
            w.ask("see", child);
            w.is(NONE, "seeBy", child);
            w.pass(1);
            w.ask("report", child, 0, 1);
            w.is(21, "seeBy", child);
            w.pass(30);
            w.is(NONE, "seeBy", child);
        });
        promise(10, "Throws `IndexOutOfBoundsException` if there is no such child", w -> {
            w.refused(INDEX, "seeBy", 0);
            child(w);
            for (int no : World.noneOf(1)) w.refused(INDEX, "seeBy", no);
            w.refused(INDEX, "seeBy", 16);
        });
    }

    private void order() {
        promise(11, "Tells an order.", w -> {
            int child = child(w);
            int other = child(w);
            w.ask("order", child, CARE, 0, 3);
            w.is(0, "counts", child, 2);
            w.is(NONE, "counts", other, 2);
        });
        promise(11, "`kind`: CARE to STAY", w -> {
            int child = child(w);
            w.range(CARE, STAY, 1, "order", child, 0, 0, 1);
            w.is(1, "counts", child, 0);
        });
        promise(11, "`from`: today, or a day behind it, to 20000", w -> {
            int child = child(w);
            w.pass(4);
            w.range(4, 20000, 2, "order", child, CARE, 4, 1);
            int[] due = {NONE, 0, NONE};
            for (int day = 3; day < 6; day++) w.is(due[day - 3], "counts", child, day);
            for (int day = 19999; day < 20002; day++) w.is(day == 20000 ? 1 : NONE, "counts", child, day);
        });
        promise(11, "`days`: 1 to 7000", w -> {
            int child = child(w);
            int other = child(w);
            w.pass(4);
            w.outside(1, 7000, 3, "order", child, CARE, 4, 1);
            w.ask("order", child, CARE, 4, 1);
            w.ask("order", other, CARE, 4, 7000);
            w.is(0, "counts", child, 4);
            w.is(NONE, "counts", child, 5);
            w.is(NONE, "counts", other, 3);
            w.is(1, "counts", other, 7003);
            w.is(NONE, "counts", other, 7004);
        });
        promise(11, "Returns its number.", w -> {
            int child = child(w);
            int other = child(w);
            w.is(0, "order", child, CARE, 0, 1);
            w.refused(ARGUMENT, "order", child, CARE, 0, 0);
            w.is(1, "order", other, CARE, 0, 1);
            w.is(2, "order", child, CARE, 0, 1);
        });
        promise(11, "Throws `IndexOutOfBoundsException` if there is no such child", w -> {
            w.refused(INDEX, "order", 0, CARE, 0, 1);
            child(w);
            for (int no : World.noneOf(1)) {
                w.refused(INDEX, "order", no, CARE, 0, 1);
                w.refused(INDEX, "order", no, 3, -1, 0);
            }
            w.refused(INDEX, "order", 16, CARE, 0, 1);
        });
        promise(11, "Throws `IllegalArgumentException` if kind, from or days is out of range", w -> {
            int child = child(w);
            w.pass(1);
            w.outside(CARE, STAY, 1, "order", child, 0, 1, 1);
            w.outside(1, 20000, 2, "order", child, 0, 1, 7000);
            w.outside(1, 7000, 3, "order", child, 0, 20000, 1);
            w.refused(ARGUMENT, "order", child, -1, 0, 0);
        });
        promise(11, "Throws `IllegalStateException` if there are 60", w -> {
            int child = child(w);
            int other = child(w);
            for (int number = 0; number < 59; number++) w.ask("order", child, CARE, 0, 1);
            w.is(59, "order", child, CARE, 20000, 7000);
            w.refused(STATE, "order", child, HOME, 0, 1);
            w.refused(STATE, "order", other, CARE, 20000, 7000);
            w.refused(ARGUMENT, "order", child, CARE, 0, 7001);
            w.is(58, "counts", child, 0);
        });
    }

    private void counts() {
        promise(12, "Returns the order that counts for a child on a day.", w -> {
            int child = child(w);
            int other = child(w);
            w.ask("order", child, CARE, 0, 9);
            w.ask("order", other, HOME, 0, 9);
            w.ask("order", child, STAY, 4, 2);
            int[] due = {0, 0, 0, 0, 2, 2, 0, 0, 0, NONE};
            for (int day = 0; day < due.length; day++) w.is(due[day], "counts", child, day);
            w.is(1, "counts", other, 4);
            w.pass(5);
            w.ask("order", child, CARE, 5, 1);
            w.is(2, "counts", child, 4);
            w.is(3, "counts", child, 5);
        });
        promise(12, "`day`: 0 to 30000", w -> {
            int child = child(w);
            w.range(0, 30000, 1, "counts", child, 0);
            w.ask("order", child, CARE, 20000, 7000);
            w.is(NONE, "counts", child, 19999);
            w.is(0, "counts", child, 20000);
            w.is(0, "counts", child, 26999);
            w.is(NONE, "counts", child, 27000);
            w.is(NONE, "counts", child, 30000);
        });
        promise(12, "Returns its number; NONE if none does.", w -> {
            int child = child(w);
            w.is(NONE, "counts", child, 0);
            w.ask("order", child, CARE, 1, 1);
            for (int day = 0; day < 3; day++) w.is(day == 1 ? 0 : NONE, "counts", child, day);
        });
        promise(12, "Throws `IndexOutOfBoundsException` if there is no such child", w -> {
            w.refused(INDEX, "counts", 0, 0);
            child(w);
            for (int no : World.noneOf(1)) {
                w.refused(INDEX, "counts", no, 0);
                w.refused(INDEX, "counts", no, -1);
            }
            w.refused(INDEX, "counts", 16, 0);
        });
        promise(12, "Throws `IllegalArgumentException` if day is out of range", w -> {
            int child = child(w);
            w.ask("order", child, CARE, 0, 7000);
            w.outside(0, 30000, 1, "counts", child, 0);
            w.pass(1);
            w.is(0, "counts", child, 0);
            w.refused(ARGUMENT, "counts", child, -1);
        });
    }

    private void wish() {
        promise(13, "Tells a wish of a child.", w -> {
            int home = w.open(0, 1, 1);
            int other = w.open(0, 1, 1);
            int child = child(w);
            int sister = child(w);
            w.ask("wish", child, home, YES);
            w.is(8, "worth", child, home);
            w.is(0, "worth", child, other);
            w.is(0, "worth", sister, home);
        });
        promise(13, "`isThere`: whether to be there, otherwise not to be there", w -> {
            int home = w.open(0, 1, 1);
            int child = w.kid(13 * YEAR, 0, 0, 0, 0);
            w.ask("wish", child, home, YES);
            w.is(8, "worth", child, home);
            w.is(0, "why", child, home);
            w.ask("wish", child, home, NO);
            w.is(-8, "worth", child, home);
            w.is(7, "why", child, home);
        });
        promise(13, "Throws `IndexOutOfBoundsException` if there is no such child or home", w -> {
            w.refused(INDEX, "wish", 0, 0, NO);
            int home = w.open(0, 1, 1);
            w.refused(INDEX, "wish", 0, home, NO);
            int child = w.kid(13 * YEAR, 0, 0, 0, 0);
            for (int no : World.noneOf(1)) {
                w.refused(INDEX, "wish", no, home, NO);
                w.refused(INDEX, "wish", child, no, NO);
                w.refused(INDEX, "wish", no, no, NO);
            }
            w.refused(INDEX, "wish", 16, home, NO);
            w.refused(INDEX, "wish", child, 10, NO);
            w.is(0, "why", child, home);
            w.is(0, "worth", child, home);
        });
    }
}
