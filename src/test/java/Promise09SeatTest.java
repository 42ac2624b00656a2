final class Promise09SeatTest {
    public static void main(String[] args) {
        Check check = new Check("promise 9");
        GroupSeats x = Hall.of(20, 2);
        Hall.book(x, 19, 0, 0);
        Hall.book(x, 2, 0, 0, 1);
        check.due("seat(0, 0)", x.seat(0, 0), 0);
        check.due("seat(0, 18)", x.seat(0, 18), 0);
        check.due("seat(0, 19)", x.seat(0, 19), 1);
        check.due("seat(0, 20)", x.seat(0, 20), GroupSeats.STATE);
        check.due("seat(1, 0)", x.seat(1, 0), 1);
        check.due("seat(1, 1)", x.seat(1, 1), GroupSeats.NONE);
        check.due("seat(1, 2)", x.seat(1, 2), GroupSeats.STATE);
        check.due("seat(1, MAX)", x.seat(1, Integer.MAX_VALUE), GroupSeats.STATE);
        check.due("seat(2, 0)", x.seat(2, 0), GroupSeats.STATE);
        check.due("seat(2, -1)", x.seat(2, -1), GroupSeats.OUTSIDE);
        check.due("seat(1, MIN)", x.seat(1, Integer.MIN_VALUE), GroupSeats.OUTSIDE);
        check.due("seat(10, 0)", x.seat(10, 0), GroupSeats.OUTSIDE);
        for (int wild : Hall.WILD) {
            check.due("seat(" + wild + ", 0)", x.seat(wild, 0), GroupSeats.OUTSIDE);
            check.due("seat(" + wild + ", 30)", x.seat(wild, 30), GroupSeats.OUTSIDE);
        }
        shorterWhenOpenAnew(check);
        check.end();
    }

    private static void shorterWhenOpenAnew(Check check) {
        GroupSeats x = Hall.of(9);
        x.shut(0);
        check.due("seat(0, 4), shut", x.seat(0, 4), GroupSeats.STATE);
        x.open(0, 4);
        check.due("seat(0, 3)", x.seat(0, 3), GroupSeats.NONE);
        check.due("seat(0, 4), no longer there", x.seat(0, 4), GroupSeats.STATE);
    }
}
