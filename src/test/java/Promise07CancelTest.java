final class Promise07CancelTest {
    public static void main(String[] args) {
        Check check = new Check("promise 7");
        seatsAreFree(check);
        inEveryRow(check);
        thenTried(check);
        howManyWereDone(check);
        newOnesWaitBehind(check);
        noSuchOne(check);
        cancelledAlready(check);
        check.end();
    }

    private static void seatsAreFree(Check check) {
        check.sentence("A BOOKING's SEATS are free");
        GroupSeats x = Hall.of(4, 4);
        Hall.book(x, 1, 0, 0);
        Hall.book(x, 4, 0, 0, 1);
        Hall.book(x, 2, 0, 1);
        check.due("cancel(1)", x.cancel(1), 0);
        check.dueSeats(x, 0, "0...");
        check.dueSeats(x, 1, ".22.");
        check.due("told(0): it counts yet", x.told(0), 3);
        check.due("about(0, 2): that is no BACK", x.about(0, 2), 0);
        check.due("cancel(0)", x.cancel(0), 0);
        check.dueSeats(x, 0, "....");
    }

    private static void inEveryRow(Check check) {
        check.sentence("A BOOKING's SEATS are free", "in the first and the last ROW too");
        GroupSeats x = Hall.of(10, 10, 10, 10, 10, 10, 10, 10, 10, 10);
        Hall.book(x, 60, 0, 9, 8, 7, 6, 5, 4);
        Hall.book(x, 40, 0, 0, 1, 2, 3);
        for (int booking = 0; booking < 2; booking++) {
            check.due("cancel(" + booking + ")", x.cancel(booking), 0);
        }
        for (int row = 0; row < 10; row++) {
            check.due("about(" + row + ", 0)", x.about(row, 0), 10);
            check.due("has(0, " + row + ")", x.has(0, row), 0);
        }
    }

    private static void thenTried(Check check) {
        check.sentence("then those that wait are tried");
        GroupSeats x = Hall.of(6);
        Hall.book(x, 6, 0, 0);
        Hall.book(x, 7, 2, 0);
        Hall.book(x, 6, 2, 0);
        check.due("cancel(0): its own seats", x.cancel(0), 1);
        check.dueSeats(x, 0, "111111");
        check.due("about(0, 2): 7 gave back", x.about(0, 2), 1);
        check.dueWaiting(x, 7);
    }

    private static void howManyWereDone(Check check) {
        check.sentence("how many of them were DONE");
        for (int count = 0; count <= 8; count++) {
            GroupSeats x = Hall.of(16);
            Hall.book(x, 16, 0, 0);
            for (int i = 0; i < 8; i++) {
                Hall.book(x, i < count ? 2 : 17, 2, 0);
            }
            check.due("cancel(0), " + count + " of 8 can be", x.cancel(0), count);
            check.due("told(0)", x.told(0), 1 + count);
            check.due("told(1)", x.told(1), 8 - count);
        }
    }

    /** Places come free in the queue when some are DONE; those that stay keep size and list. */
    private static void newOnesWaitBehind(Check check) {
        check.sentence("then those that wait are tried", "and others wait behind them");
        GroupSeats x = Hall.of(3, 2);
        Hall.book(x, 3, 0, 0);
        Hall.book(x, 1, 2, 0);
        Hall.book(x, 5, 2, 0, 0);
        Hall.book(x, 2, 2, 0);
        Hall.book(x, 4, 2, 0);
        check.due("cancel(0)", x.cancel(0), 2);
        for (int n = 9; n < 15; n++) {
            check.due("book(" + n + ", 2)", Hall.book(x, n, 2, 1), GroupSeats.WAITS);
        }
        check.due("book(15, 2)", Hall.book(x, 15, 2, 1), GroupSeats.SHORT);
        check.dueWaiting(x, 5, 4, 9, 10, 11, 12, 13, 14);
        x.cancel(1);
        x.cancel(2);
        x.shut(0);
        check.due("open(0, 10)", x.open(0, 10), 2);
        check.dueSeats(x, 0, "333334444.");
        check.dueWaiting(x, 9, 10, 11, 12, 13, 14);
    }

    private static void noSuchOne(Check check) {
        check.sentence("OUTSIDE: no such one");
        GroupSeats x = Hall.of(4);
        check.due("cancel(0), none yet", x.cancel(0), GroupSeats.OUTSIDE);
        Hall.book(x, 1, 0, 0);
        Hall.book(x, 5, 2, 0);
        for (int booking : Hall.outside(0, 0)) {
            check.due("cancel(" + booking + ")", x.cancel(booking), GroupSeats.OUTSIDE);
        }
        check.dueSeats(x, 0, "0...");
        check.due("told(3): nobody is tried", x.told(3), 1);
        GroupSeats full = Hall.withBookings(40);
        check.due("cancel(40)", full.cancel(40), GroupSeats.OUTSIDE);
        check.due("cancel(39)", full.cancel(39), 0);
    }

    private static void cancelledAlready(Check check) {
        check.sentence("STATE: it was cancelled already");
        GroupSeats x = Hall.of(4);
        Hall.book(x, 4, 0, 0);
        check.due("cancel(0)", x.cancel(0), 0);
        check.due("cancel(0), again", x.cancel(0), GroupSeats.STATE);
        Hall.book(x, 2, 0, 0);
        Hall.book(x, 5, 2, 0);
        check.due("cancel(0), its seats are another's", x.cancel(0), GroupSeats.STATE);
        check.dueSeats(x, 0, "11..");
        check.due("told(3): nobody is tried", x.told(3), 1);
        GroupSeats full = Hall.withBookings(40);
        for (int booking = 0; booking < 40; booking++) {
            check.due("cancel(" + booking + ")", full.cancel(booking), 0);
            check.due("cancel(" + booking + "), again", full.cancel(booking), GroupSeats.STATE);
        }
    }
}
