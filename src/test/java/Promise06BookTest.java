final class Promise06BookTest {
    public static void main(String[] args) {
        Check check = new Check("promise 6");
        oneToSixty(check);
        listIsEmptyThen(check);
        allOrNone(check);
        asManyAsThereAre(check);
        allOrItWaits(check);
        itsBooking(check);
        byWhatItFailed(check);
        shortIfEightWait(check);
        outsideN(check);
        outsideMode(check);
        listIsEmpty(check);
        fortyBookings(check);
        check.end();
    }

    private static void oneToSixty(Check check) {
        check.sentence("A PARTY of n (1 to 60)");
        for (int n = 1; n <= 60; n++) {
            GroupSeats x = Hall.of(20, 20, 20);
            check.due("book(" + n + ", 0) of 0, 1, 2", Hall.book(x, n, 0, 0, 1, 2), 0);
            check.due("its seats", x.has(0, 0) + x.has(0, 1) + x.has(0, 2), n);
        }
    }

    private static void listIsEmptyThen(Check check) {
        check.sentence("goes through THE LIST, which is empty then");
        int[][] parties = {{1, 0, 0}, {2, 0, 0}, {2, 1, 0}, {2, 2, 0}, {2, 0, 5}, {2, 2, 5}, {2, 0, 10}, {2, 2, 11}};
        for (int[] party : parties) {
            GroupSeats x = Hall.of(1, 9);
            Hall.book(x, party[0], party[1], 0, party[2]);
            check.due("told(4)", x.told(4), 0);
            check.due("book(1, 0)", x.book(1, 0), GroupSeats.STATE);
            check.due("list(1)", x.list(1), 1);
            check.due("book(9, 0)", x.book(9, 0), x.told(0) - 1);
            check.due("about(1, 0)", x.about(1, 0), 0);
        }
    }

    private static void allOrNone(Check check) {
        check.sentence("0 all of them or none");
        GroupSeats x = Hall.of(3, 2);
        check.due("book(6, 0) of 0, 1", Hall.book(x, 6, 0, 0, 1), GroupSeats.SHORT);
        check.dueSeats(x, 0, "...");
        check.dueSeats(x, 1, "..");
        check.due("book(5, 0) of 0, 1", Hall.book(x, 5, 0, 0, 1), 0);
        check.dueSeats(x, 0, "000");
        check.dueSeats(x, 1, "00");
        check.dueWaiting(x);
    }

    private static void asManyAsThereAre(Check check) {
        check.sentence("1 as many as there are");
        GroupSeats x = Hall.of(3, 2);
        check.due("book(60, 1) of 0, 1", Hall.book(x, 60, 1, 0, 1), 0);
        check.dueSeats(x, 0, "000");
        check.dueSeats(x, 1, "00");
        check.due("book(1, 1), none", Hall.book(x, 1, 1, 0, 1), GroupSeats.SHORT);
        x.cancel(0);
        check.due("book(4, 1): not more than it is", Hall.book(x, 4, 1, 0, 1), 1);
        check.dueSeats(x, 1, "1.");
        check.due("book(4, 1), one", Hall.book(x, 4, 1, 0, 1), 2);
        check.dueSeats(x, 1, "12");
        check.dueWaiting(x);
    }

    private static void allOrItWaits(Check check) {
        check.sentence("2 all or it WAITS");
        GroupSeats x = Hall.of(3, 2);
        check.due("book(6, 2) of 0, 1", Hall.book(x, 6, 2, 0, 1), GroupSeats.WAITS);
        check.dueSeats(x, 0, "...");
        check.dueSeats(x, 1, "..");
        check.dueWaiting(x, 6);
        check.due("book(5, 2) of 0, 1", Hall.book(x, 5, 2, 0, 1), 0);
        check.dueWaiting(x, 6);
    }

    private static void itsBooking(Check check) {
        check.sentence("its BOOKING");
        GroupSeats x = Hall.of(3);
        for (int mode = 0; mode < 3; mode++) {
            check.due("book(1, " + mode + ")", Hall.book(x, 1, mode, 0), mode);
            check.due("has(" + mode + ", 0)", x.has(mode, 0), 1);
        }
    }

    private static void byWhatItFailed(Check check) {
        check.sentence("by what it FAILED (of MODE 2 by SHORT: WAITS");
        GroupSeats x = Hall.of(1);
        Hall.book(x, 1, 0, 0);
        for (int mode = 0; mode < 3; mode++) {
            int shortage = mode == 2 ? GroupSeats.WAITS : GroupSeats.SHORT;
            check.due("book(1, " + mode + ") of 0", Hall.book(x, 1, mode, 0), shortage);
            check.due("book(1, " + mode + ") of 0, 9", Hall.book(x, 1, mode, 0, 9), GroupSeats.SHUT);
            check.due("book(1, " + mode + ") of 0, 10", Hall.book(x, 1, mode, 0, 10), GroupSeats.NO_ROW);
        }
        check.due("told(3)", x.told(3), 9);
        check.dueWaiting(x, 1);
    }

    private static void shortIfEightWait(Check check) {
        check.sentence("SHORT, if 8 wait)");
        GroupSeats x = Hall.withWaiting(7);
        check.due("book(9, 2), 7 wait", Hall.book(x, 9, 2, 0), GroupSeats.WAITS);
        check.due("book(10, 2), 8 wait", Hall.book(x, 10, 2, 0), GroupSeats.SHORT);
        check.dueTold(x, 0, 8, 1, 9, 0, 1);
        check.due("waiting(7)", x.waiting(7), 9);
        check.due("book(10, 2) of 0, 5, 8 wait", Hall.book(x, 10, 2, 0, 5), GroupSeats.SHUT);
        check.due("book(10, 2) of 0, 10, 8 wait", Hall.book(x, 10, 2, 0, 10), GroupSeats.NO_ROW);
        check.due("book(1, 2), 8 wait, but it is DONE", Hall.book(x, 1, 2, 0), 0);
        check.due("told(1)", x.told(1), 8);
        x.leave(0);
        check.due("book(1, 2), 7 wait", Hall.book(x, 1, 2, 0), GroupSeats.WAITS);
    }

    private static void outsideN(Check check) {
        check.sentence("OUTSIDE (n");
        GroupSeats x = Hall.of(20, 20, 20);
        x.list(0);
        for (int mode = 0; mode < 3; mode++) {
            check.due("book(0, " + mode + ")", x.book(0, mode), GroupSeats.OUTSIDE);
            check.due("book(61, " + mode + ")", x.book(61, mode), GroupSeats.OUTSIDE);
            for (int n : Hall.outside(1, 60)) {
                check.due("book(" + n + ", " + mode + ")", x.book(n, mode), GroupSeats.OUTSIDE);
            }
        }
        check.dueTold(x, 0, 0, 0, 0, 1, 3);
    }

    private static void outsideMode(Check check) {
        check.sentence("OUTSIDE (n, mode)");
        GroupSeats x = Hall.of(20);
        x.list(0);
        for (int mode : Hall.outside(0, 2)) {
            check.due("book(1, " + mode + ")", x.book(1, mode), GroupSeats.OUTSIDE);
            check.due("book(60, " + mode + ")", x.book(60, mode), GroupSeats.OUTSIDE);
        }
        check.dueTold(x, 0, 0, 0, 0, 1, 1);
    }

    private static void listIsEmpty(Check check) {
        check.sentence("STATE: THE LIST is empty");
        GroupSeats x = Hall.of(20);
        for (int mode = 0; mode < 3; mode++) {
            check.due("book(1, " + mode + ")", x.book(1, mode), GroupSeats.STATE);
            check.due("book(60, " + mode + ")", x.book(60, mode), GroupSeats.STATE);
        }
        check.dueTold(x, 0, 0, 0, 0, 0, 1);
        check.due("book(1, 0) of 0", Hall.book(x, 1, 0, 0), 0);
        check.due("book(1, 0), empty again", x.book(1, 0), GroupSeats.STATE);
    }

    private static void fortyBookings(Check check) {
        check.sentence("ROOM: there were 40 BOOKINGS");
        GroupSeats x = Hall.withBookings(38);
        check.due("book(1, 1), the 39th", Hall.book(x, 1, 1, 0), 38);
        check.due("book(1, 2), the 40th", Hall.book(x, 1, 2, 1), 39);
        check.due("has(39, 1)", x.has(39, 1), 1);
        x.cancel(39);
        for (int mode = 0; mode < 3; mode++) {
            check.due("book(1, " + mode + "), a 41st", Hall.book(x, 1, mode, 1), GroupSeats.ROOM);
            check.due("told(4): THE LIST is kept", x.told(4), mode + 1);
        }
        check.due("book(60, 2): nor does it wait", x.book(60, 2), GroupSeats.ROOM);
        check.dueTold(x, 40, 0, 1, 0, 3, 2);
    }
}
