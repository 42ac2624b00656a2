final class Promise03ShutTest {
    public static void main(String[] args) {
        Check check = new Check("promise 3");
        isNotOpen(check);
        howManySeats(check);
        outside(check);
        itIsNot(check);
        aSeatIsBooked(check);
        givenBackIsFree(check);
        check.end();
    }

    private static void isNotOpen(Check check) {
        check.sentence("A ROW is not OPEN");
        GroupSeats x = Hall.of(7, 5);
        x.shut(0);
        check.due("told(5)", x.told(5), 1);
        check.due("seat(0, 0)", x.seat(0, 0), GroupSeats.STATE);
        check.due("about(0, 0)", x.about(0, 0), GroupSeats.STATE);
        check.due("strict(0, true)", x.strict(0, true), GroupSeats.STATE);
        check.due("book(1, 0) of 0", Hall.book(x, 1, 0, 0), GroupSeats.SHUT);
        check.due("about(1, 3): no other one", x.about(1, 3), 5);
    }

    private static void howManySeats(Check check) {
        check.sentence("how many SEATS it had");
        for (int seats = 1; seats <= 20; seats++) {
            check.due("shut(0), " + seats + " seats", Hall.of(seats).shut(0), seats);
        }
        GroupSeats x = Hall.of(6);
        x.shut(0);
        x.open(0, 2);
        check.due("shut(0), fewer than at first", x.shut(0), 2);
    }

    private static void outside(Check check) {
        check.sentence("OUTSIDE");
        GroupSeats x = Hall.of(1, 1, 1, 1, 1, 1, 1, 1, 1, 1);
        for (int row : Hall.outside(0, 9)) {
            check.due("shut(" + row + ")", x.shut(row), GroupSeats.OUTSIDE);
        }
        check.due("told(5)", x.told(5), 10);
    }

    private static void itIsNot(Check check) {
        check.sentence("STATE: it is not");
        GroupSeats x = Hall.of(7);
        check.due("shut(9), never OPEN", x.shut(9), GroupSeats.STATE);
        x.shut(0);
        check.due("shut(0), shut", x.shut(0), GroupSeats.STATE);
        check.due("told(5)", x.told(5), 0);
    }

    private static void aSeatIsBooked(Check check) {
        check.sentence("or a SEAT is of a BOOKING");
        for (int booked = 0; booked < 20; booked++) {
            GroupSeats x = Hall.of(20);
            for (int i = 0; i < 20; i++) {
                Hall.book(x, 1, 0, 0);
            }
            check.due("shut(0), full", x.shut(0), GroupSeats.STATE);
            for (int i = 0; i < 20; i++) {
                check.due("cancel(" + i + ")", i == booked ? 0 : x.cancel(i), 0);
            }
            check.due("shut(0), seat " + booked + " booked", x.shut(0), GroupSeats.STATE);
            check.due("seat(0, " + booked + ")", x.seat(0, booked), booked);
            x.cancel(booked);
            check.due("shut(0), all free", x.shut(0), 20);
        }
    }

    private static void givenBackIsFree(Check check) {
        check.sentence("or a SEAT is of a BOOKING", "not one that was given back");
        GroupSeats x = Hall.of(3);
        Hall.book(x, 5, 0, 0);
        Hall.book(x, 5, 2, 0);
        check.due("shut(0), one waits for it", x.shut(0), 3);
        check.due("told(1)", x.told(1), 1);
    }
}
