final class Promise08LeaveTest {
    public static void main(String[] args) {
        Check check = new Check("promise 8");
        GroupSeats x = Hall.of(1, 1);
        check.due("leave(0)", x.leave(0), GroupSeats.OUTSIDE);
        for (int n = 2; n < 10; n++) {
            Hall.book(x, n, 2, 0, n % 2);
        }
        check.due("leave(8)", x.leave(8), GroupSeats.OUTSIDE);
        for (int wild : Hall.WILD) {
            check.due("leave(" + wild + ")", x.leave(wild), GroupSeats.OUTSIDE);
        }
        check.due("told(1)", x.told(1), 8);
        int failures = x.told(3);
        check.due("leave(7), the last", x.leave(7), 9);
        check.due("leave(7) again", x.leave(7), GroupSeats.OUTSIDE);
        check.due("leave(0), the first", x.leave(0), 2);
        check.due("leave(2), one midway", x.leave(2), 5);
        check.due("told(3): nobody is tried", x.told(3), failures);
        dueWaiting(check, x, 3, 4, 6, 7, 8);
        check.due("book(12, 2)", Hall.book(x, 12, 2, 0), GroupSeats.WAITS);
        dueWaiting(check, x, 3, 4, 6, 7, 8, 12);
        for (int n : new int[] {3, 4, 6, 7, 8, 12}) {
            check.due("leave(0)", x.leave(0), n);
        }
        check.due("leave(0), nobody", x.leave(0), GroupSeats.OUTSIDE);
        goesWithItsList(check);
        check.end();
    }

    private static void dueWaiting(Check check, GroupSeats x, int... want) {
        check.due("told(1)", x.told(1), want.length);
        for (int k = 0; k < want.length; k++) {
            check.due("waiting(" + k + ")", x.waiting(k), want[k]);
        }
        check.due("waiting(" + want.length + ")", x.waiting(want.length), GroupSeats.NONE);
    }

    /** Those behind keep their own lists, and a list in the making is nobody else's. */
    private static void goesWithItsList(Check check) {
        GroupSeats x = Hall.of(1, 1, 1);
        Hall.book(x, 2, 2, 0);
        Hall.book(x, 3, 2, 1);
        Hall.book(x, 4, 2, 2);
        x.list(2);
        check.due("leave(0)", x.leave(0), 2);
        check.due("told(4)", x.told(4), 1);
        check.due("book(5, 2) of 2, 0", Hall.book(x, 5, 2, 0), GroupSeats.WAITS);
        for (int row = 0; row < 3; row++) {
            x.shut(row);
        }
        x.open(0, 20);
        check.due("open(1, 20)", x.open(1, 20), 1);
        check.due("has(0, 1)", x.has(0, 1), 3);
        check.due("open(2, 20)", x.open(2, 20), 2);
        check.due("has(1, 2)", x.has(1, 2), 4);
        check.due("has(2, 2)", x.has(2, 2), 5);
    }
}
