final class Promise06BookTest {
    public static void main(String[] args) {
        Check check = new Check("promise 6");
        allOrNone(check);
        asManyAsThereAre(check);
        allOrItWaits(check);
        doneHoldsNoFurtherRow(check);
        givesBackEachTimeHeld(check);
        refuses(check);
        eightWait(check);
        fortyBookings(check);
        check.end();
    }

    private static void allOrNone(Check check) {
        GroupSeats x = Hall.of(3, 2);
        check.due("book(4, 0) of 0, 1", Hall.book(x, 4, 0, 0, 1), 0);
        check.dueSeats(x, 0, "000");
        check.dueSeats(x, 1, "0.");
        check.due("book(2, 0) of 0, 1", Hall.book(x, 2, 0, 0, 1), GroupSeats.SHORT);
        check.due("book(2, 0) of 1, 2", Hall.book(x, 2, 0, 1, 2), GroupSeats.SHUT);
        check.due("book(2, 0) of 1, 10", Hall.book(x, 2, 0, 1, 10), GroupSeats.NO_ROW);
        check.due("book(2, 0) of 1, 11, 2", Hall.book(x, 2, 0, 1, 11, 2), GroupSeats.NO_ROW);
        check.due("book(2, 0) of 1, 2, 11", Hall.book(x, 2, 0, 1, 2, 11), GroupSeats.SHUT);
        check.dueSeats(x, 1, "0.");
        check.dueTold(x, 1, 0, 2, 5, 0, 2);
        check.due("about(0, 2): it gave nothing back", x.about(0, 2), 0);
        check.due("about(1, 2)", x.about(1, 2), 5);
        check.due("book(1, 0) of 1", Hall.book(x, 1, 0, 1), 1);
    }

    private static void asManyAsThereAre(Check check) {
        GroupSeats x = Hall.of(2, 2);
        check.due("book(3, 1) of 0", Hall.book(x, 3, 1, 0), 0);
        check.due("book(3, 1) of 0, full", Hall.book(x, 3, 1, 0), GroupSeats.SHORT);
        check.due("book(3, 1) of 0, 5", Hall.book(x, 3, 1, 0, 5), GroupSeats.SHUT);
        check.due("book(3, 1) of 0, 11", Hall.book(x, 3, 1, 0, 11), GroupSeats.NO_ROW);
        check.due("book(1, 1) of 1, 5", Hall.book(x, 1, 1, 1, 5), 1);
        check.due("book(2, 1) of 0, 1, 5", Hall.book(x, 2, 1, 0, 1, 5), 2);
        x.cancel(2);
        check.due("book(2, 1) of 1, 10", Hall.book(x, 2, 1, 1, 10), 3);
        check.dueSeats(x, 0, "00");
        check.dueSeats(x, 1, "13");
        check.dueTold(x, 4, 0, 2, 3, 0, 2);
        check.due("about(0, 2)", x.about(0, 2), 0);
        check.due("about(1, 2)", x.about(1, 2), 0);
    }

    private static void allOrItWaits(Check check) {
        GroupSeats x = Hall.of(2, 2);
        check.due("book(4, 2) of 0, 1", Hall.book(x, 4, 2, 0, 1), 0);
        check.due("book(1, 2) of 0, 1", Hall.book(x, 1, 2, 0, 1), GroupSeats.WAITS);
        check.due("book(1, 2) of 0, 9", Hall.book(x, 1, 2, 0, 9), GroupSeats.SHUT);
        check.due("book(1, 2) of 0, 10", Hall.book(x, 1, 2, 0, 10), GroupSeats.NO_ROW);
        check.dueTold(x, 1, 1, 2, 3, 0, 2);
        check.due("waiting(0)", x.waiting(0), 1);
    }

    private static void doneHoldsNoFurtherRow(Check check) {
        GroupSeats x = Hall.of(3, 3);
        check.due("book(3, 0) of 0, 1", Hall.book(x, 3, 0, 0, 1), 0);
        check.due("about(1, 1)", x.about(1, 1), 0);
        check.due("book(3, 0) of 1, 10", Hall.book(x, 3, 0, 1, 10), 1);
        check.due("told(2)", x.told(2), 1);
        check.due("told(3)", x.told(3), 0);
    }

    private static void givesBackEachTimeHeld(Check check) {
        GroupSeats x = Hall.of(8, 1);
        for (int n : new int[] {2, 1, 3, 1, 1}) {
            Hall.book(x, n, 0, 0);
        }
        x.cancel(0);
        x.cancel(2);
        x.strict(0, true);
        check.dueSeats(x, 0, "..1...34");
        check.due("book(7, 0) of 0, 1, 0, 0", Hall.book(x, 7, 0, 0, 1, 0, 0), GroupSeats.SHORT);
        check.dueSeats(x, 0, "..1...34");
        check.dueSeats(x, 1, ".");
        check.due("about(0, 1): five and three", x.about(0, 1), 8);
        check.due("about(0, 2): twice with seats, once without", x.about(0, 2), 2);
        check.due("about(1, 2)", x.about(1, 2), 1);
        check.due("told(2)", x.told(2), 4);
    }

    private static void refuses(Check check) {
        GroupSeats x = Hall.of(20);
        check.due("book(1, 0) without a list", x.book(1, 0), GroupSeats.STATE);
        check.due("book(0, 0) without a list", x.book(0, 0), GroupSeats.OUTSIDE);
        check.due("book(1, 3) without a list", x.book(1, 3), GroupSeats.OUTSIDE);
        x.list(0);
        check.due("book(0, 0)", x.book(0, 0), GroupSeats.OUTSIDE);
        check.due("book(61, 0)", x.book(61, 0), GroupSeats.OUTSIDE);
        check.due("book(1, 3)", x.book(1, 3), GroupSeats.OUTSIDE);
        for (int wild : Hall.WILD) {
            check.due("book(" + wild + ", 0)", x.book(wild, 0), GroupSeats.OUTSIDE);
            check.due("book(1, " + wild + ")", x.book(1, wild), GroupSeats.OUTSIDE);
        }
        check.dueTold(x, 0, 0, 0, 0, 1, 1);
        check.due("book(60, 0)", x.book(60, 0), GroupSeats.SHORT);
        check.due("told(4): empty after it FAILED", x.told(4), 0);
        check.due("book(1, 0): empty after it FAILED", x.book(1, 0), GroupSeats.STATE);
        sixty(check);
    }

    private static void sixty(Check check) {
        GroupSeats x = Hall.of(20, 20, 20);
        check.due("book(60, 0) of 0, 1, 2", Hall.book(x, 60, 0, 0, 1, 2), 0);
        check.due("about(2, 0)", x.about(2, 0), 0);
        check.due("told(2)", x.told(2), 3);
    }

    private static void eightWait(Check check) {
        GroupSeats x = Hall.of(1);
        for (int n = 2; n < 10; n++) {
            check.due("book(" + n + ", 2)", Hall.book(x, n, 2, 0), GroupSeats.WAITS);
        }
        check.due("book(10, 2), 8 wait", Hall.book(x, 10, 2, 0), GroupSeats.SHORT);
        check.due("told(1)", x.told(1), 8);
        check.due("told(3)", x.told(3), 9);
        check.due("waiting(7)", x.waiting(7), 9);
        check.due("told(4)", x.told(4), 0);
        check.due("book(1, 2), 8 wait, but it is DONE", Hall.book(x, 1, 2, 0), 0);
    }

    private static void fortyBookings(Check check) {
        GroupSeats x = Hall.withBookings(39);
        check.due("book(1, 0), the last", Hall.book(x, 1, 0, 1), 39);
        check.due("has(39, 1)", x.has(39, 1), 1);
        check.due("book(1, 0) without a list", x.book(1, 0), GroupSeats.STATE);
        check.due("book(1, 0)", Hall.book(x, 1, 0, 0), GroupSeats.ROOM);
        check.due("book(61, 0)", x.book(61, 0), GroupSeats.OUTSIDE);
        check.due("told(4): THE LIST is kept", x.told(4), 1);
        x.cancel(0);
        check.due("book(1, 2): cancelled ones count", x.book(1, 2), GroupSeats.ROOM);
        check.due("told(3)", x.told(3), 0);
    }
}
