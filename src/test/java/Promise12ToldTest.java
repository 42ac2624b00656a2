final class Promise12ToldTest {
    public static void main(String[] args) {
        Check check = new Check("promise 12");
        bookingsInAll(check);
        howManyWait(check);
        mostRows(check);
        heldTwice(check);
        mostRowsOfThoseThatFail(check);
        failures(check);
        failuresEachTime(check);
        notThoseThatKept(check);
        numbersInTheList(check);
        openRows(check);
        outside(check);
        check.end();
    }

    private static void bookingsInAll(Check check) {
        check.sentence("What = 0 BOOKINGS in all");
        GroupSeats x = Hall.withBookings(0);
        for (int count = 0; count < 40; count++) {
            check.due("told(0)", x.told(0), count);
            Hall.book(x, 1, 0, 0, 1);
        }
        check.due("told(0)", x.told(0), 40);
        x.cancel(0);
        check.due("told(0), one cancelled", x.told(0), 40);
    }

    private static void howManyWait(Check check) {
        check.sentence("1 how many wait");
        for (int count = 0; count <= 8; count++) {
            check.due("told(1)", Hall.withWaiting(count).told(1), count);
        }
        GroupSeats x = Hall.withWaiting(9);
        check.due("told(1), nine came", x.told(1), 8);
        x.leave(0);
        check.due("told(1), one left", x.told(1), 7);
        x.shut(0);
        x.open(0, 3);
        check.due("told(1), one is DONE", x.told(1), 6);
    }

    private static void mostRows(Check check) {
        check.sentence("2 the most ROWS that a PARTY held at a time so far");
        GroupSeats x = Hall.of(1, 1, 1);
        check.due("told(2), none yet", x.told(2), 0);
        Hall.book(x, 3, 0, 0, 1, 2);
        check.due("told(2)", x.told(2), 3);
        x.cancel(0);
        Hall.book(x, 1, 0, 0, 1, 2);
        check.due("told(2), then fewer", x.told(2), 3);
        Hall.book(x, 2, 0, 1, 2);
        check.due("told(2): of one PARTY, not of all", x.told(2), 3);
    }

    private static void heldTwice(Check check) {
        check.sentence("(one that it held twice counts twice)");
        GroupSeats x = Hall.of(1, 1);
        Hall.book(x, 9, 0, 0, 1, 0);
        check.due("told(2)", x.told(2), 3);
        Hall.book(x, 9, 0, 0, 0, 0, 0, 0, 0);
        check.due("told(2): six times", x.told(2), 6);
    }

    private static void mostRowsOfThoseThatFail(Check check) {
        check.sentence("2 the most ROWS that a PARTY held at a time so far", "not those that it did not get to");
        GroupSeats x = Hall.of(1, 1);
        Hall.book(x, 1, 0, 7);
        Hall.book(x, 1, 0, 11);
        check.due("told(2), none held", x.told(2), 0);
        Hall.book(x, 9, 0, 0, 7, 1);
        check.due("told(2), shut midway", x.told(2), 1);
        Hall.book(x, 9, 0, 0, 1, 10, 0);
        check.due("told(2), no row midway", x.told(2), 2);
        x.shut(1);
        Hall.book(x, 9, 2, 0, 0, 0);
        x.open(1, 1);
        check.due("told(2)", x.told(2), 3);
    }

    private static void failures(Check check) {
        check.sentence("3 PARTIES that FAILED");
        GroupSeats x = Hall.of(1);
        check.due("told(3), none yet", x.told(3), 0);
        Hall.book(x, 2, 0, 0);
        check.due("told(3), by SHORT", x.told(3), 1);
        Hall.book(x, 2, 0, 0, 5);
        check.due("told(3), by SHUT", x.told(3), 2);
        Hall.book(x, 2, 0, 10);
        check.due("told(3), by NO_ROW", x.told(3), 3);
        Hall.book(x, 2, 2, 0);
        check.due("told(3), it waits", x.told(3), 4);
        Hall.book(x, 1, 0, 0);
        check.due("told(3), DONE", x.told(3), 4);
        x.book(1, 0);
        x.book(0, 0);
        check.due("told(3): refused calls are no PARTIES", x.told(3), 4);
    }

    private static void failuresEachTime(Check check) {
        check.sentence("(each time");
        GroupSeats x = Hall.withWaiting(2);
        check.due("told(3)", x.told(3), 2);
        x.open(1, 1);
        check.due("told(3), tried", x.told(3), 4);
        Hall.book(x, 1, 0, 1);
        x.cancel(0);
        check.due("told(3), tried again", x.told(3), 6);
        x.leave(0);
        check.due("told(3), one left", x.told(3), 6);
        x.shut(0);
        x.open(0, 3);
        check.due("told(3), the other is DONE", x.told(3), 6);
    }

    private static void notThoseThatKept(Check check) {
        check.sentence("not those of MODE 1 that kept a SEAT)");
        GroupSeats x = Hall.of(1, 1, 1);
        Hall.book(x, 2, 1, 0);
        Hall.book(x, 2, 1, 1, 5);
        Hall.book(x, 2, 1, 2, 10);
        check.due("told(3)", x.told(3), 0);
        Hall.book(x, 2, 1, 0);
        check.due("told(3): it had none to keep", x.told(3), 1);
    }

    private static void numbersInTheList(Check check) {
        check.sentence("4 numbers in THE LIST");
        GroupSeats x = Hall.of(1);
        for (int count = 0; count < 6; count++) {
            check.due("told(4)", x.told(4), count);
            x.list(0);
        }
        check.due("told(4)", x.told(4), 6);
        x.list(0);
        check.due("told(4), no room", x.told(4), 6);
        x.book(1, 0);
        check.due("told(4), booked", x.told(4), 0);
    }

    private static void openRows(Check check) {
        check.sentence("5 OPEN ROWS");
        GroupSeats x = new GroupSeats();
        for (int row = 9; row >= 0; row--) {
            check.due("told(5)", x.told(5), 9 - row);
            x.open(row, 1);
        }
        check.due("told(5), all", x.told(5), 10);
        x.shut(9);
        x.shut(0);
        check.due("told(5)", x.told(5), 8);
    }

    private static void outside(Check check) {
        check.sentence("OUTSIDE");
        GroupSeats x = Hall.withWaiting(1);
        check.due("told(-1)", x.told(-1), GroupSeats.OUTSIDE);
        check.due("told(6)", x.told(6), GroupSeats.OUTSIDE);
        for (int what : Hall.outside(0, 5)) {
            check.due("told(" + what + ")", x.told(what), GroupSeats.OUTSIDE);
        }
    }
}
