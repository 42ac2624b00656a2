final class Promise09SeatTest {
    public static void main(String[] args) {
        Check check = new Check("promise 9");
        ofWhom(check);
        free(check);
        noSuchRow(check);
        below(check);
        notOpen(check);
        hasItNot(check);
        check.end();
    }

    private static void ofWhom(Check check) {
        check.sentence("Of whom a SEAT is");
        GroupSeats x = Hall.of(20);
        for (int i = 0; i < 20; i++) {
            Hall.book(x, 1, 0, 0);
        }
        for (int i = 0; i < 20; i++) {
            check.due("seat(0, " + i + ")", x.seat(0, i), i);
        }
        GroupSeats full = Hall.withBookings(40);
        check.due("seat(0, 0), the first booking", full.seat(0, 0), 0);
        check.due("seat(1, 19), the last one", full.seat(1, 19), 39);
    }

    private static void free(Check check) {
        check.sentence("NONE: it is free");
        GroupSeats x = Hall.of(20);
        Hall.book(x, 19, 0, 0);
        check.due("seat(0, 18)", x.seat(0, 18), 0);
        check.due("seat(0, 19)", x.seat(0, 19), GroupSeats.NONE);
        x.cancel(0);
        check.due("seat(0, 0), cancelled", x.seat(0, 0), GroupSeats.NONE);
        Hall.book(x, 21, 2, 0);
        check.due("seat(0, 0), given back", x.seat(0, 0), GroupSeats.NONE);
    }

    private static void noSuchRow(Check check) {
        check.sentence("OUTSIDE: no such ROW");
        GroupSeats x = Hall.of(1, 1, 1, 1, 1, 1, 1, 1, 1, 1);
        check.due("seat(9, 0)", x.seat(9, 0), GroupSeats.NONE);
        for (int row : Hall.outside(0, 9)) {
            check.due("seat(" + row + ", 0)", x.seat(row, 0), GroupSeats.OUTSIDE);
            check.due("seat(" + row + ", 20)", x.seat(row, 20), GroupSeats.OUTSIDE);
        }
    }

    private static void below(Check check) {
        check.sentence("SEAT number below 0");
        GroupSeats x = Hall.of(20);
        for (int i : new int[] {-1, -2, -20, -256, -65536, Integer.MIN_VALUE}) {
            check.due("seat(0, " + i + ")", x.seat(0, i), GroupSeats.OUTSIDE);
            check.due("seat(5, " + i + "), not OPEN", x.seat(5, i), GroupSeats.OUTSIDE);
        }
    }

    private static void notOpen(Check check) {
        check.sentence("STATE: the ROW is not OPEN");
        GroupSeats x = Hall.of(9);
        check.due("seat(9, 0), never OPEN", x.seat(9, 0), GroupSeats.STATE);
        x.shut(0);
        check.due("seat(0, 0), shut", x.seat(0, 0), GroupSeats.STATE);
        check.due("seat(0, 8), shut", x.seat(0, 8), GroupSeats.STATE);
        check.due("seat(0, MAX), shut", x.seat(0, Integer.MAX_VALUE), GroupSeats.STATE);
    }

    private static void hasItNot(Check check) {
        check.sentence("or has it not");
        for (int seats = 1; seats <= 20; seats++) {
            GroupSeats x = Hall.of(seats);
            check.due("seat(0, " + (seats - 1) + ")", x.seat(0, seats - 1), GroupSeats.NONE);
            for (int i : new int[] {seats, seats + 1, 20, 21, 32, 256, 65536, Integer.MAX_VALUE}) {
                check.due("seat(0, " + i + "), " + seats + " seats", x.seat(0, i), GroupSeats.STATE);
            }
        }
        GroupSeats x = Hall.of(9);
        x.shut(0);
        x.open(0, 4);
        check.due("seat(0, 3)", x.seat(0, 3), GroupSeats.NONE);
        check.due("seat(0, 4), no longer there", x.seat(0, 4), GroupSeats.STATE);
    }
}
