final class Promise07CancelTest {
    public static void main(String[] args) {
        Check check = new Check("promise 7");
        frees(check);
        refuses(check);
        triesOnceInOrder(check);
        newOnesWaitBehind(check);
        staysWhenItsRowIsShut(check);
        roomForBookings(check);
        check.end();
    }

    private static void frees(Check check) {
        GroupSeats x = Hall.of(4, 4);
        Hall.book(x, 1, 0, 0);
        Hall.book(x, 4, 0, 0, 1);
        Hall.book(x, 2, 0, 1);
        check.due("cancel(1)", x.cancel(1), 0);
        check.dueSeats(x, 0, "0...");
        check.dueSeats(x, 1, ".22.");
        check.due("told(0): cancelled ones count", x.told(0), 3);
        check.due("about(0, 2): that is no BACK", x.about(0, 2), 0);
        check.due("cancel(0)", x.cancel(0), 0);
        check.dueSeats(x, 0, "....");
    }

    private static void refuses(Check check) {
        GroupSeats x = Hall.of(4);
        check.due("cancel(0)", x.cancel(0), GroupSeats.OUTSIDE);
        Hall.book(x, 1, 0, 0);
        check.due("cancel(1)", x.cancel(1), GroupSeats.OUTSIDE);
        for (int wild : Hall.WILD) {
            check.due("cancel(" + wild + ")", x.cancel(wild), GroupSeats.OUTSIDE);
        }
        Hall.book(x, 5, 2, 0);
        check.dueSeats(x, 0, "0...");
        x.cancel(0);
        int failures = x.told(3);
        check.due("cancel(0) again", x.cancel(0), GroupSeats.STATE);
        check.due("cancel(40)", x.cancel(40), GroupSeats.OUTSIDE);
        check.due("told(3): refused calls try nobody", x.told(3), failures);
    }

    private static void triesOnceInOrder(Check check) {
        GroupSeats x = Hall.of(6);
        Hall.book(x, 6, 0, 0);
        for (int n : new int[] {4, 3, 2, 7, 1}) {
            check.due("book(" + n + ", 2)", Hall.book(x, n, 2, 0), GroupSeats.WAITS);
        }
        check.due("cancel(0)", x.cancel(0), 2);
        check.dueSeats(x, 0, "111122");
        check.due("waiting(0)", x.waiting(0), 3);
        check.due("waiting(1)", x.waiting(1), 7);
        check.due("waiting(2)", x.waiting(2), 1);
        check.due("waiting(3)", x.waiting(3), GroupSeats.NONE);
        check.dueTold(x, 3, 3, 1, 8, 0, 1);
        check.due("about(0, 2): 3 and 7 gave back", x.about(0, 2), 1);
        check.due("cancel(2)", x.cancel(2), 1);
        check.dueSeats(x, 0, "11113.");
        check.due("waiting(1)", x.waiting(1), 7);
        check.due("told(1)", x.told(1), 2);
    }

    /** Places come free in the queue when some are DONE; those that stay keep size and list. */
    private static void newOnesWaitBehind(Check check) {
        GroupSeats x = Hall.of(3, 2);
        Hall.book(x, 3, 0, 0);
        Hall.book(x, 1, 2, 0);
        Hall.book(x, 5, 2, 0, 0);
        Hall.book(x, 2, 2, 0);
        Hall.book(x, 4, 2, 0);
        check.due("cancel(0)", x.cancel(0), 2);
        int[] behind = {9, 10, 11, 12, 13, 14};
        for (int n : behind) {
            check.due("book(" + n + ", 2)", Hall.book(x, n, 2, 1), GroupSeats.WAITS);
        }
        check.due("book(15, 2)", Hall.book(x, 15, 2, 1), GroupSeats.SHORT);
        check.due("waiting(0)", x.waiting(0), 5);
        check.due("waiting(1)", x.waiting(1), 4);
        for (int i = 0; i < behind.length; i++) {
            check.due("waiting(" + (i + 2) + ")", x.waiting(i + 2), behind[i]);
        }
        x.cancel(1);
        x.cancel(2);
        x.shut(0);
        check.due("open(0, 10)", x.open(0, 10), 2);
        check.dueSeats(x, 0, "333334444.");
        check.due("waiting(0)", x.waiting(0), 9);
    }

    private static void staysWhenItsRowIsShut(Check check) {
        GroupSeats x = Hall.of(1, 1);
        Hall.book(x, 2, 2, 0);
        Hall.book(x, 1, 0, 1);
        x.shut(0);
        check.due("cancel(0)", x.cancel(0), 0);
        check.due("told(3): it FAILED by SHUT", x.told(3), 2);
        check.due("waiting(0)", x.waiting(0), 2);
        check.due("open(0, 2)", x.open(0, 2), 1);
        check.due("has(1, 0)", x.has(1, 0), 2);
    }

    private static void roomForBookings(Check check) {
        GroupSeats x = Hall.withBookings(20);
        for (int i = 20; i < 39; i++) {
            Hall.book(x, 1, 0, 1);
        }
        for (int i = 0; i < 3; i++) {
            check.due("book(2, 2)", Hall.book(x, 2, 2, 0, 1), GroupSeats.WAITS);
        }
        check.due("cancel(0): one of three gets the last booking", x.cancel(0), 1);
        check.dueTold(x, 40, 2, 2, 3, 0, 2);
        check.due("cancel(1)", x.cancel(1), 0);
        check.due("cancel(2)", x.cancel(2), 0);
        check.dueTold(x, 40, 2, 2, 3, 0, 2);
        check.due("about(0, 0)", x.about(0, 0), 2);
    }
}
