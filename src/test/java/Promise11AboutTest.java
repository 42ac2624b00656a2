final class Promise11AboutTest {
    public static void main(String[] args) {
        Check check = new Check("promise 11");
        GroupSeats x = Hall.of(5, 3);
        dueAbout(check, x, 0, 5, 0, 0, 5);
        Hall.book(x, 6, 0, 0, 1);
        dueAbout(check, x, 0, 0, 1, 0, 5);
        dueAbout(check, x, 1, 2, 1, 0, 3);
        Hall.book(x, 3, 0, 0, 1);
        dueAbout(check, x, 0, 0, 2, 0, 5);
        dueAbout(check, x, 1, 2, 2, 1, 3);
        Hall.book(x, 3, 2, 1, 1, 1);
        dueAbout(check, x, 1, 2, 5, 2, 3);
        x.cancel(0);
        dueAbout(check, x, 0, 5, 2, 0, 5);
        dueAbout(check, x, 1, 0, 6, 2, 3);
        refuses(check, x);
        shutRowsAreNotHeld(check);
        check.end();
    }

    private static void dueAbout(Check check, GroupSeats x, int row, int... want) {
        for (int what = 0; what < want.length; what++) {
            check.due("about(" + row + ", " + what + ")", x.about(row, what), want[what]);
        }
    }

    private static void refuses(Check check, GroupSeats x) {
        check.due("about(0, 4)", x.about(0, 4), GroupSeats.OUTSIDE);
        check.due("about(10, 0)", x.about(10, 0), GroupSeats.OUTSIDE);
        check.due("about(5, 4), not open", x.about(5, 4), GroupSeats.OUTSIDE);
        for (int wild : Hall.WILD) {
            check.due("about(" + wild + ", 0)", x.about(wild, 0), GroupSeats.OUTSIDE);
            check.due("about(0, " + wild + ")", x.about(0, wild), GroupSeats.OUTSIDE);
            check.due("about(5, " + wild + ")", x.about(5, wild), GroupSeats.OUTSIDE);
        }
        for (int what = 0; what < 4; what++) {
            check.due("about(5, " + what + "), not open", x.about(5, what), GroupSeats.STATE);
        }
    }

    private static void shutRowsAreNotHeld(Check check) {
        GroupSeats x = Hall.of(2);
        Hall.book(x, 3, 0, 0, 4);
        Hall.book(x, 3, 0, 4, 0);
        x.open(4, 1);
        dueAbout(check, x, 4, 1, 0, 0, 1);
        dueAbout(check, x, 0, 2, 1, 1, 2);
    }
}
