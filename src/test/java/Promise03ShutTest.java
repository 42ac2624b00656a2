final class Promise03ShutTest {
    public static void main(String[] args) {
        Check check = new Check("promise 3");
        GroupSeats x = Hall.of(7, 20, 1);
        check.due("shut(0)", x.shut(0), 7);
        check.due("shut(0) again", x.shut(0), GroupSeats.STATE);
        check.due("shut(1)", x.shut(1), 20);
        check.due("shut(3), never open", x.shut(3), GroupSeats.STATE);
        check.due("told(5)", x.told(5), 1);
        check.due("seat(0, 0)", x.seat(0, 0), GroupSeats.STATE);
        check.due("shut(10)", x.shut(10), GroupSeats.OUTSIDE);
        for (int wild : Hall.WILD) {
            check.due("shut(" + wild + ")", x.shut(wild), GroupSeats.OUTSIDE);
        }
        notWhileBooked(check);
        seatsGivenBackDoNotKeepIt(check);
        check.end();
    }

    private static void notWhileBooked(Check check) {
        GroupSeats x = Hall.of(3);
        Hall.book(x, 2, 0, 0);
        Hall.book(x, 1, 0, 0);
        check.due("shut(0), full", x.shut(0), GroupSeats.STATE);
        x.cancel(0);
        check.due("shut(0), the last seat booked", x.shut(0), GroupSeats.STATE);
        check.dueSeats(x, 0, "..1");
        x.cancel(1);
        check.due("shut(0), all free", x.shut(0), 3);
    }

    private static void seatsGivenBackDoNotKeepIt(Check check) {
        GroupSeats x = Hall.of(3);
        Hall.book(x, 5, 2, 0);
        check.due("shut(0), one waits for it", x.shut(0), 3);
        check.due("told(1)", x.told(1), 1);
    }
}
