/** The sentences of "Terms" about those that are WAITING. */
final class TermsWaitingTest {
    public static void main(String[] args) {
        Check check = new Check("terms, waiting");
        upToEight(check);
        ofModeTwo(check);
        failedByShort(check);
        withTheirLists(check);
        inOrder(check);
        triedByCancel(check);
        triedByOpen(check);
        triedByNothingElse(check);
        once(check);
        triedInOrder(check);
        waitNoMore(check);
        waitOn(check);
        roomForOne(check);
        roomForNone(check);
        check.end();
    }

    private static void upToEight(Check check) {
        check.sentence("WAITING are up to 8 PARTIES");
        GroupSeats x = Hall.of(1);
        for (int n = 2; n < 10; n++) {
            check.due("book(" + n + ", 2)", Hall.book(x, n, 2, 0), GroupSeats.WAITS);
        }
        check.due("book(10, 2), a ninth", Hall.book(x, 10, 2, 0), GroupSeats.SHORT);
        check.dueWaiting(x, 2, 3, 4, 5, 6, 7, 8, 9);
        x.leave(3);
        check.due("book(11, 2), a place is free", Hall.book(x, 11, 2, 0), GroupSeats.WAITS);
        check.due("book(12, 2), a ninth", Hall.book(x, 12, 2, 0), GroupSeats.SHORT);
        check.dueWaiting(x, 2, 3, 4, 6, 7, 8, 9, 11);
    }

    private static void ofModeTwo(Check check) {
        check.sentence("PARTIES of MODE 2");
        GroupSeats x = Hall.of(1);
        check.due("book(2, 0)", Hall.book(x, 2, 0, 0), GroupSeats.SHORT);
        check.due("book(2, 1)", Hall.book(x, 2, 1, 0), 0);
        check.due("book(2, 1), full", Hall.book(x, 2, 1, 0), GroupSeats.SHORT);
        check.dueWaiting(x);
        check.due("book(2, 2)", Hall.book(x, 2, 2, 0), GroupSeats.WAITS);
        check.dueWaiting(x, 2);
    }

    private static void failedByShort(Check check) {
        check.sentence("that FAILED by SHORT");
        GroupSeats x = Hall.of(1);
        check.due("book(2, 2) of 0, 5", Hall.book(x, 2, 2, 0, 5), GroupSeats.SHUT);
        check.due("book(2, 2) of 0, 10", Hall.book(x, 2, 2, 0, 10), GroupSeats.NO_ROW);
        check.due("book(1, 2) of 5", Hall.book(x, 1, 2, 5), GroupSeats.SHUT);
        check.due("book(1, 2) of 11", Hall.book(x, 1, 2, 11), GroupSeats.NO_ROW);
        check.due("book(1, 2) of 0: DONE", Hall.book(x, 1, 2, 0), 0);
        check.dueWaiting(x);
    }

    private static void withTheirLists(Check check) {
        check.sentence("with their LISTS");
        GroupSeats x = Hall.of(1, 1, 1, 1, 1, 1);
        Hall.book(x, 7, 2, 5, 4, 3, 2, 1, 0);
        Hall.book(x, 4, 2, 2);
        Hall.book(x, 5, 2, 3, 1);
        x.list(0);
        for (int row = 0; row < 6; row++) {
            x.shut(row);
        }
        int[] due = {0, 0, 1, 1, 0, 1};
        for (int row = 0; row < 6; row++) {
            check.due("open(" + row + ", 5)", x.open(row, 5), due[row]);
        }
        check.dueSeats(x, 2, "0000.");
        check.dueSeats(x, 3, "11111");
        check.dueSeats(x, 5, "22222");
        check.dueSeats(x, 4, "22...");
        check.due("told(4): THE LIST is another one", x.told(4), 1);
    }

    private static void inOrder(Check check) {
        check.sentence("in order");
        GroupSeats x = Hall.of(1);
        for (int n : new int[] {60, 2, 33, 5}) {
            Hall.book(x, n, 2, 0);
        }
        check.dueWaiting(x, 60, 2, 33, 5);
        x.leave(1);
        Hall.book(x, 3, 2, 0);
        check.dueWaiting(x, 60, 33, 5, 3);
    }

    private static void triedByCancel(Check check) {
        check.sentence("When SEATS came free (by cancel())", "each is tried");
        GroupSeats x = Hall.of(2, 2);
        Hall.book(x, 2, 0, 0);
        Hall.book(x, 1, 0, 1);
        Hall.book(x, 1, 2, 0);
        Hall.book(x, 1, 2, 0);
        Hall.book(x, 3, 2, 1);
        check.due("cancel(1): seats that are none of theirs", x.cancel(1), 0);
        check.due("told(3): three tried", x.told(3), 6);
        check.due("cancel(0)", x.cancel(0), 2);
        check.dueSeats(x, 0, "23");
        check.due("told(3): one of three failed", x.told(3), 7);
    }

    private static void triedByOpen(Check check) {
        check.sentence("or a ROW is OPEN anew (open())", "each is tried");
        GroupSeats x = Hall.withWaiting(2);
        check.due("open(1, 9): a row that is none of theirs", x.open(1, 9), 0);
        check.due("told(3): two tried", x.told(3), 4);
        x.shut(0);
        check.due("open(0, 5)", x.open(0, 5), 2);
        check.dueSeats(x, 0, "00111");
        check.due("told(3)", x.told(3), 4);
    }

    private static void triedByNothingElse(Check check) {
        check.sentence("When SEATS came free (by cancel()), or a ROW is OPEN anew (open())", "by nothing else");
        GroupSeats x = Hall.withRow(".#.");
        x.strict(0, true);
        check.due("book(2, 2)", Hall.book(x, 2, 2, 0), GroupSeats.WAITS);
        int held = x.about(0, 1);
        check.due("strict(0, false): there are two seats now", x.strict(0, false), 1);
        check.due("list(0)", x.list(0), 1);
        check.due("book(3, 0): it gives seats back", x.book(3, 0), GroupSeats.SHORT);
        Hall.book(x, 3, 2, 0);
        check.due("leave(1)", x.leave(1), 3);
        check.due("shut(0), refused", x.shut(0), GroupSeats.STATE);
        check.due("about(0, 1): held by the two that booked", x.about(0, 1), held + 2);
        check.due("told(3)", x.told(3), 3);
        check.dueWaiting(x, 2);
        check.due("open(1, 1)", x.open(1, 1), 1);
    }

    private static void once(Check check) {
        check.sentence("once");
        GroupSeats x = Hall.withRow(".#.#");
        Hall.book(x, 2, 0, 0);
        Hall.book(x, 2, 2, 0);
        Hall.book(x, 1, 2, 0);
        Hall.book(x, 3, 2, 0);
        int held = x.about(0, 1);
        check.due("cancel(1)", x.cancel(1), 1);
        check.due("about(0, 1): each held it once", x.about(0, 1), held + 3);
        check.due("told(3)", x.told(3), 5);
        GroupSeats eight = Hall.withWaiting(8);
        eight.open(1, 1);
        check.due("about(0, 1)", eight.about(0, 1), 16);
        check.due("told(3)", eight.told(3), 16);
    }

    private static void triedInOrder(Check check) {
        check.sentence("each is tried, once, in order");
        GroupSeats x = Hall.of(6);
        Hall.book(x, 6, 0, 0);
        for (int n : new int[] {4, 3, 2, 7, 1}) {
            Hall.book(x, n, 2, 0);
        }
        check.due("cancel(0)", x.cancel(0), 2);
        check.dueSeats(x, 0, "111122");
        check.dueWaiting(x, 3, 7, 1);
    }

    private static void waitNoMore(Check check) {
        check.sentence("those that are DONE are BOOKINGS, and wait no more");
        GroupSeats x = Hall.withWaiting(8);
        x.shut(0);
        check.due("open(0, 20): 2, 3, 4, 5 and 6", x.open(0, 20), 5);
        check.dueSeats(x, 0, "00111222233333444444");
        check.dueWaiting(x, 7, 8, 9);
        check.due("told(0)", x.told(0), 5);
        check.due("cancel(4): too few for 7", x.cancel(4), 0);
        check.due("cancel(1): 7 of the nine", x.cancel(1), 1);
        check.dueSeats(x, 0, "005552222333335555..");
        check.dueWaiting(x, 8, 9);
        x.cancel(0);
        x.cancel(2);
        x.cancel(3);
        check.due("told(0)", x.told(0), 7);
        check.dueWaiting(x, 9);
        check.due("cancel(6): the last one", x.cancel(6), 1);
        check.dueWaiting(x);
        check.due("cancel(7): nobody waits", x.cancel(7), 0);
    }

    /** What the document says of those DONE alone: the others wait, by whatever they FAILED. */
    private static void waitOn(Check check) {
        check.sentence("those that are DONE are BOOKINGS, and wait no more", "the others wait on");
        GroupSeats x = Hall.of(1, 1, 1);
        Hall.book(x, 3, 2, 0, 1);
        Hall.book(x, 1, 0, 2);
        x.shut(1);
        check.due("cancel(0): it FAILS by SHUT", x.cancel(0), 0);
        check.due("told(3)", x.told(3), 2);
        check.due("about(0, 2): and gave its seat back", x.about(0, 2), 2);
        check.dueWaiting(x, 3);
        check.due("open(1, 2)", x.open(1, 2), 1);
        check.due("has(1, 1)", x.has(1, 1), 2);
    }

    private static void roomForOne(Check check) {
        check.sentence("(if there is room for BOOKINGS");
        GroupSeats x = Hall.withBookings(39);
        for (int i = 0; i < 3; i++) {
            check.due("book(2, 2)", Hall.book(x, 2, 2, 0), GroupSeats.WAITS);
        }
        x.open(2, 1);
        check.due("told(3): with room all are tried", x.told(3), 6);
        check.due("cancel(0)", x.cancel(0), 0);
        check.due("told(3)", x.told(3), 9);
        check.due("cancel(2): the first gets the last booking", x.cancel(2), 1);
        check.due("told(3): then no other is tried", x.told(3), 9);
        check.due("told(0)", x.told(0), 40);
        check.dueWaiting(x, 2, 2);
    }

    private static void roomForNone(Check check) {
        check.sentence("else none is tried)");
        GroupSeats x = Hall.withBookings(39);
        Hall.book(x, 2, 2, 1);
        Hall.book(x, 1, 0, 1);
        int held = x.about(1, 1);
        check.due("cancel(1)", x.cancel(1), 0);
        check.due("cancel(3): two are free", x.cancel(3), 0);
        check.due("open(2, 20)", x.open(2, 20), 0);
        check.due("told(3)", x.told(3), 1);
        check.due("about(1, 1)", x.about(1, 1), held);
        check.due("about(1, 0)", x.about(1, 0), 2);
        check.dueWaiting(x, 2);
    }
}
