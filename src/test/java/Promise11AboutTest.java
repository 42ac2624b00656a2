final class Promise11AboutTest {
    public static void main(String[] args) {
        Check check = new Check("promise 11");
        freeSeats(check);
        howOftenHeld(check);
        heldByThoseThatWait(check);
        shutRowsAreNotHeld(check);
        back(check);
        seats(check);
        outsideRow(check);
        outsideWhat(check);
        notOpen(check);
        check.end();
    }

    private static void freeSeats(Check check) {
        check.sentence("what = 0 free SEATS");
        GroupSeats x = Hall.of(20);
        check.due("about(0, 0), all", x.about(0, 0), 20);
        Hall.book(x, 19, 0, 0);
        check.due("about(0, 0)", x.about(0, 0), 1);
        Hall.book(x, 2, 0, 0);
        check.due("about(0, 0), given back", x.about(0, 0), 1);
        Hall.book(x, 2, 1, 0);
        check.due("about(0, 0), none", x.about(0, 0), 0);
        x.cancel(0);
        check.due("about(0, 0)", x.about(0, 0), 19);
    }

    private static void howOftenHeld(Check check) {
        check.sentence("1 how often it was held by PARTIES");
        GroupSeats x = Hall.of(5, 3);
        check.due("about(0, 1), never", x.about(0, 1), 0);
        Hall.book(x, 6, 0, 0, 1);
        check.due("about(0, 1)", x.about(0, 1), 1);
        check.due("about(1, 1)", x.about(1, 1), 1);
        Hall.book(x, 3, 0, 0, 1);
        check.due("about(0, 1): without a free seat too", x.about(0, 1), 2);
        Hall.book(x, 3, 0, 1, 1, 1);
        check.due("about(1, 1): three times by one", x.about(1, 1), 5);
        x.cancel(0);
        check.due("about(0, 1): not by cancel()", x.about(0, 1), 2);
    }

    private static void heldByThoseThatWait(Check check) {
        check.sentence("1 how often it was held by PARTIES", "each time that they are tried");
        GroupSeats x = Hall.withWaiting(3);
        check.due("about(0, 1)", x.about(0, 1), 3);
        x.open(1, 1);
        check.due("about(0, 1)", x.about(0, 1), 6);
        x.leave(0);
        check.due("about(0, 1): not by leave()", x.about(0, 1), 6);
    }

    private static void shutRowsAreNotHeld(Check check) {
        check.sentence("1 how often it was held by PARTIES", "not while it was not OPEN");
        GroupSeats x = Hall.of(2);
        Hall.book(x, 3, 0, 0, 4);
        Hall.book(x, 3, 0, 4, 0);
        x.open(4, 1);
        check.dueAbout(x, 4, 1, 0, 0, 1);
        check.dueAbout(x, 0, 2, 1, 1, 2);
    }

    private static void back(Check check) {
        check.sentence("2 BACK");
        GroupSeats x = Hall.of(2, 2);
        check.due("about(0, 2), none", x.about(0, 2), 0);
        Hall.book(x, 5, 2, 0, 1);
        Hall.book(x, 2, 0, 0);
        check.due("about(0, 2)", x.about(0, 2), 1);
        x.open(2, 1);
        check.due("about(0, 2): nothing to give back", x.about(0, 2), 1);
        check.due("about(1, 2): tried once more", x.about(1, 2), 2);
    }

    private static void seats(Check check) {
        check.sentence("3 SEATS");
        GroupSeats x = Hall.of(1, 20);
        check.due("about(0, 3)", x.about(0, 3), 1);
        check.due("about(1, 3)", x.about(1, 3), 20);
        Hall.book(x, 20, 0, 1);
        check.due("about(1, 3), booked", x.about(1, 3), 20);
    }

    private static void outsideRow(Check check) {
        check.sentence("OUTSIDE", "no such ROW");
        GroupSeats x = Hall.of(1, 1, 1, 1, 1, 1, 1, 1, 1, 1);
        for (int row : Hall.outside(0, 9)) {
            for (int what = 0; what < 4; what++) {
                check.due("about(" + row + ", " + what + ")", x.about(row, what), GroupSeats.OUTSIDE);
            }
        }
        check.due("about(9, 3)", x.about(9, 3), 1);
    }

    private static void outsideWhat(Check check) {
        check.sentence("OUTSIDE", "what is not 0 to 3");
        GroupSeats x = Hall.of(5);
        for (int what : Hall.outside(0, 3)) {
            check.due("about(0, " + what + ")", x.about(0, what), GroupSeats.OUTSIDE);
            check.due("about(5, " + what + "), not OPEN", x.about(5, what), GroupSeats.OUTSIDE);
        }
    }

    private static void notOpen(Check check) {
        check.sentence("STATE: it is not OPEN");
        GroupSeats x = Hall.of(5);
        x.shut(0);
        for (int what = 0; what < 4; what++) {
            check.due("about(9, " + what + "), never OPEN", x.about(9, what), GroupSeats.STATE);
            check.due("about(0, " + what + "), shut", x.about(0, what), GroupSeats.STATE);
        }
    }
}
