final class Promise10HasTest {
    public static void main(String[] args) {
        Check check = new Check("promise 10");
        howMany(check);
        heldAgainIsOneSum(check);
        ofACancelledOne(check);
        notOpen(check);
        outsideBooking(check);
        outsideRow(check);
        check.end();
    }

    private static void howMany(Check check) {
        check.sentence("How many SEATS a BOOKING has in a ROW");
        GroupSeats x = Hall.of(4, 20, 3);
        Hall.book(x, 1, 0, 0);
        Hall.book(x, 23, 0, 0, 1);
        check.due("has(0, 0)", x.has(0, 0), 1);
        check.due("has(0, 1), none", x.has(0, 1), 0);
        check.due("has(1, 0)", x.has(1, 0), 3);
        check.due("has(1, 1), all", x.has(1, 1), 20);
        check.due("has(1, 2), none", x.has(1, 2), 0);
    }

    private static void heldAgainIsOneSum(Check check) {
        check.sentence("How many SEATS a BOOKING has in a ROW", "one that it held again");
        GroupSeats x = Hall.withRow("...#....");
        x.strict(0, true);
        Hall.book(x, 7, 0, 0, 0);
        check.due("has(3, 0)", x.has(3, 0), 7);
    }

    private static void ofACancelledOne(Check check) {
        check.sentence("How many SEATS a BOOKING has in a ROW", "cancelled");
        GroupSeats x = Hall.of(4);
        Hall.book(x, 4, 0, 0);
        x.cancel(0);
        check.due("has(0, 0)", x.has(0, 0), 0);
        Hall.book(x, 4, 0, 0);
        check.due("has(0, 0), its seats are another's", x.has(0, 0), 0);
        check.due("has(1, 0)", x.has(1, 0), 4);
    }

    private static void notOpen(Check check) {
        check.sentence("(0 of one that is not OPEN)");
        GroupSeats x = Hall.of(4, 3);
        Hall.book(x, 7, 0, 0, 1);
        Hall.book(x, 1, 1, 0, 1);
        check.due("has(0, 9), never OPEN", x.has(0, 9), 0);
        x.cancel(0);
        x.shut(1);
        check.due("has(0, 1), shut", x.has(0, 1), 0);
        Hall.book(x, 1, 0, 0);
        check.due("has(1, 1), shut", x.has(1, 1), 0);
    }

    private static void outsideBooking(Check check) {
        check.sentence("OUTSIDE", "no such BOOKING");
        check.due("has(0, 0), none yet", Hall.of(2).has(0, 0), GroupSeats.OUTSIDE);
        GroupSeats x = Hall.withBookings(3);
        Hall.book(x, 60, 2, 0);
        for (int booking : Hall.outside(0, 2)) {
            check.due("has(" + booking + ", 0)", x.has(booking, 0), GroupSeats.OUTSIDE);
            check.due("has(" + booking + ", 5), not OPEN", x.has(booking, 5), GroupSeats.OUTSIDE);
        }
        GroupSeats full = Hall.withBookings(40);
        check.due("has(39, 1)", full.has(39, 1), 1);
        check.due("has(40, 1)", full.has(40, 1), GroupSeats.OUTSIDE);
    }

    private static void outsideRow(Check check) {
        check.sentence("OUTSIDE", "no such ROW");
        GroupSeats x = Hall.withBookings(3);
        for (int row : Hall.outside(0, 9)) {
            check.due("has(0, " + row + ")", x.has(0, row), GroupSeats.OUTSIDE);
            check.due("has(3, " + row + ")", x.has(3, row), GroupSeats.OUTSIDE);
        }
    }
}
