final class Promise01NewObjectTest {
    public static void main(String[] args) {
        Check check = new Check("promise 1");
        noRowIsOpen(check);
        noBookings(check);
        nobodyWaits(check);
        listIsEmpty(check);
        nothingCounted(check);
        objectsShareNothing(check);
        check.end();
    }

    private static void noRowIsOpen(Check check) {
        check.sentence("No ROW is OPEN");
        GroupSeats x = new GroupSeats();
        check.due("told(5)", x.told(5), 0);
        for (int row = 0; row < 10; row++) {
            check.due("about(" + row + ", 3)", x.about(row, 3), GroupSeats.STATE);
            check.due("seat(" + row + ", 0)", x.seat(row, 0), GroupSeats.STATE);
            check.due("shut(" + row + ")", x.shut(row), GroupSeats.STATE);
            check.due("strict(" + row + ", true)", x.strict(row, true), GroupSeats.STATE);
            check.due("book(1, 1) of " + row, Hall.book(x, 1, 1, row), GroupSeats.SHUT);
        }
    }

    private static void noBookings(Check check) {
        check.sentence("no BOOKINGS");
        GroupSeats x = new GroupSeats();
        check.due("told(0)", x.told(0), 0);
        check.due("cancel(0)", x.cancel(0), GroupSeats.OUTSIDE);
        check.due("has(0, 0)", x.has(0, 0), GroupSeats.OUTSIDE);
        x.open(0, 1);
        check.due("the first booking", Hall.book(x, 1, 0, 0), 0);
    }

    private static void nobodyWaits(Check check) {
        check.sentence("nobody waits");
        GroupSeats x = new GroupSeats();
        check.dueWaiting(x);
        for (int k = 0; k < 9; k++) {
            check.due("waiting(" + k + ")", x.waiting(k), GroupSeats.NONE);
            check.due("leave(" + k + ")", x.leave(k), GroupSeats.OUTSIDE);
        }
        check.due("open(0, 20): nobody to be tried", x.open(0, 20), 0);
        check.due("about(0, 1)", x.about(0, 1), 0);
    }

    private static void listIsEmpty(Check check) {
        check.sentence("THE LIST is empty");
        GroupSeats x = new GroupSeats();
        check.due("told(4)", x.told(4), 0);
        check.due("book(1, 0)", x.book(1, 0), GroupSeats.STATE);
        check.due("list(0)", x.list(0), 1);
    }

    private static void nothingCounted(Check check) {
        check.sentence("A new object");
        GroupSeats x = new GroupSeats();
        check.dueTold(x, 0, 0, 0, 0, 0, 0);
        for (int row = 0; row < 10; row++) {
            x.open(row, 2);
            check.dueAbout(x, row, 2, 0, 0, 2);
        }
    }

    private static void objectsShareNothing(Check check) {
        check.sentence("A new object", "another one in use");
        GroupSeats used = Hall.of(3);
        Hall.book(used, 1, 0, 0);
        Hall.book(used, 9, 2, 0);
        used.list(4);
        GroupSeats x = new GroupSeats();
        check.dueTold(x, 0, 0, 0, 0, 0, 0);
        x.open(0, 5);
        Hall.book(x, 5, 0, 0);
        check.dueTold(used, 1, 1, 1, 1, 1, 1);
        check.dueSeats(used, 0, "0..");
    }
}
